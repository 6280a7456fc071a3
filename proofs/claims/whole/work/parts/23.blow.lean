theorem dX7_blowOn_0 : decode cX7_blowOn 0 = .ok (.iconst 0, 1) := by decide +kernel
theorem dX7_blowOn_1 : decode cX7_blowOn 1 = .ok (.istore_n 2, 1) := by decide +kernel
theorem dX7_blowOn_2 : decode cX7_blowOn 2 = .ok (.iconst 0, 1) := by decide +kernel
theorem dX7_blowOn_3 : decode cX7_blowOn 3 = .ok (.istore_n 3, 1) := by decide +kernel
theorem dX7_blowOn_4 : decode cX7_blowOn 4 = .ok (.iload_n 3, 1) := by decide +kernel
theorem dX7_blowOn_5 : decode cX7_blowOn 5 = .ok (.iload_n 1, 1) := by decide +kernel
theorem dX7_blowOn_6 : decode cX7_blowOn 6 = .ok (.if_icmp .ge 19, 3) := by decide +kernel
theorem dX7_blowOn_9 : decode cX7_blowOn 9 = .ok (.aload_n 0, 1) := by decide +kernel
theorem dX7_blowOn_10 : decode cX7_blowOn 10 = .ok (.invokevirtual 45, 3) := by decide +kernel
theorem dX7_blowOn_13 : decode cX7_blowOn 13 = .ok (.ifCond .eq 6, 3) := by decide +kernel
theorem dX7_blowOn_16 : decode cX7_blowOn 16 = .ok (.iinc 2 1, 3) := by decide +kernel
theorem dX7_blowOn_19 : decode cX7_blowOn 19 = .ok (.iinc 3 1, 3) := by decide +kernel
theorem dX7_blowOn_22 : decode cX7_blowOn 22 = .ok (.goto (-18), 3) := by decide +kernel
theorem dX7_blowOn_25 : decode cX7_blowOn 25 = .ok (.iload_n 2, 1) := by decide +kernel
theorem dX7_blowOn_26 : decode cX7_blowOn 26 = .ok (.ireturn, 1) := by decide +kernel
set_option maxRecDepth 100000 in
theorem SX7_blowOn_0 {g : zG} {o : Bool} {a s : Nat} (ha : zSt a s) {M : zM} {q : Int → zM → Prop} {x1 : Int} (W : zT g (z1 o) mX7_blowOn (zQi (z1 o) q) 4 [(0, zA g a), (1, zI x1), (2, zI 0), (3, zI 0)] [] M) : zT g (z1 o) mX7_blowOn (zQi (z1 o) q) 0 [(0, zA g a), (1, zI x1)] [] M := by
  refine zr_iconst dX7_blowOn_0 ?_
  refine zr_istore_n (l' := [(0, zA g a), (1, zI x1), (2, zI 0)]) dX7_blowOn_1 (by decide) [1, 2, 0] rfl ?_
  refine zr_iconst dX7_blowOn_2 ?_
  refine zr_istore_n (l' := [(0, zA g a), (1, zI x1), (2, zI 0), (3, zI 0)]) dX7_blowOn_3 (by decide) [1, 2, 3, 0] rfl ?_
  exact W
set_option maxRecDepth 100000 in
theorem SX7_blowOn_4 {g : zG} {o : Bool} {a s : Nat} (ha : zSt a s) {M : zM} {q : Int → zM → Prop} {x1 x2 x3 : Int} (W : (-2147483648 ≤ x3 ∧ x3 ≤ 2147483647) ∧ (-2147483648 ≤ x1 ∧ x1 ≤ 2147483647) ∧ ((x1 ≤ x3) → q x2 M) ∧ ((¬ (x1 ≤ x3)) → ∃ q3 : Int → zM → Prop, zKi g (z1 o) mX7_tryOnce [zA g a] M q3 ∧ ∀ (r4 : Int) (M5 : zM), q3 r4 M5 → (-2147483648 ≤ r4 ∧ r4 ≤ 2147483647) ∧ ((r4 = 0) → zT g (z1 o) mX7_blowOn (zQi (z1 o) q) 4 [(0, zA g a), (1, zI x1), (2, zI x2), (3, zI (x3 + 1))] [] M5) ∧ ((¬ (r4 = 0)) → zT g (z1 o) mX7_blowOn (zQi (z1 o) q) 4 [(0, zA g a), (1, zI x1), (2, zI (x2 + 1)), (3, zI (x3 + 1))] [] M5))) : zT g (z1 o) mX7_blowOn (zQi (z1 o) q) 4 [(0, zA g a), (1, zI x1), (2, zI x2), (3, zI x3)] [] M := by
  refine zr_iload_n 3 dX7_blowOn_4 rfl ?_
  refine zr_iload_n 1 dX7_blowOn_5 rfl ?_
  obtain ⟨c1, W⟩ := W
  obtain ⟨c2, W⟩ := W
  refine zr_icmp_ge (tgt := 25) dX7_blowOn_6 (by decide) c1 c2 (fun h => ?_) (fun h => ?_)
  · have W := W.1 h
    refine zr_iload_n 2 dX7_blowOn_25 rfl ?_
    exact zt_iret dX7_blowOn_26 rfl W
  · have W := W.2 h
    refine zr_aload_n 0 dX7_blowOn_9 rfl ?_
    obtain ⟨q3, k7, W⟩ := W
    refine zt_callVi (As := []) (rest := []) dX7_blowOn_10 kX7_blowOn_45 (zst_0 ha) rfl rfl rfl (Nat.le_of_ble_eq_true rfl) k7 (fun r4 M5 h6 => ?_)
    have W := W r4 M5 h6
    obtain ⟨c8, W⟩ := W
    refine zr_if_eq (tgt := 19) dX7_blowOn_13 (by decide) c8 (fun h => ?_) (fun h => ?_)
    · have W := W.1 h
      refine zr_iinc (q := 3) (l' := [(0, zA g a), (1, zI x1), (2, zI x2), (3, zI (x3 + 1))]) dX7_blowOn_19 rfl (by decide) [1, 2, 3, 0] rfl ?_
      refine zr_goto (tgt := 4) dX7_blowOn_22 (by decide) ?_
      exact W
    · have W := W.2 h
      refine zr_iinc (q := 2) (l' := [(0, zA g a), (1, zI x1), (2, zI (x2 + 1)), (3, zI x3)]) dX7_blowOn_16 rfl (by decide) [1, 2, 0, 3] rfl ?_
      refine zr_iinc (q := 3) (l' := [(0, zA g a), (1, zI x1), (2, zI (x2 + 1)), (3, zI (x3 + 1))]) dX7_blowOn_19 rfl (by decide) [1, 2, 3, 0] rfl ?_
      refine zr_goto (tgt := 4) dX7_blowOn_22 (by decide) ?_
      exact W
theorem dX7_startFrom_0 : decode cX7_startFrom 0 = .ok (.aload_n 0, 1) := by decide +kernel
theorem dX7_startFrom_1 : decode cX7_startFrom 1 = .ok (.getfield 26, 3) := by decide +kernel
theorem dX7_startFrom_4 : decode cX7_startFrom 4 = .ok (.aload_n 1, 1) := by decide +kernel
theorem dX7_startFrom_5 : decode cX7_startFrom 5 = .ok (.invokevirtual 30, 3) := by decide +kernel
theorem dX7_startFrom_8 : decode cX7_startFrom 8 = .ok (.aload_n 0, 1) := by decide +kernel
theorem dX7_startFrom_9 : decode cX7_startFrom 9 = .ok (.getfield 26, 3) := by decide +kernel
theorem dX7_startFrom_12 : decode cX7_startFrom 12 = .ok (.iload_n 2, 1) := by decide +kernel
theorem dX7_startFrom_13 : decode cX7_startFrom 13 = .ok (.putfield 36, 3) := by decide +kernel
theorem dX7_startFrom_16 : decode cX7_startFrom 16 = .ok (.aload_n 0, 1) := by decide +kernel
theorem dX7_startFrom_17 : decode cX7_startFrom 17 = .ok (.iconst 0, 1) := by decide +kernel
theorem dX7_startFrom_18 : decode cX7_startFrom 18 = .ok (.putfield 15, 3) := by decide +kernel
theorem dX7_startFrom_21 : decode cX7_startFrom 21 = .ok (.aload_n 0, 1) := by decide +kernel
theorem dX7_startFrom_22 : decode cX7_startFrom 22 = .ok (.iconst 0, 1) := by decide +kernel
theorem dX7_startFrom_23 : decode cX7_startFrom 23 = .ok (.putfield 19, 3) := by decide +kernel
theorem dX7_startFrom_26 : decode cX7_startFrom 26 = .ok (.aload_n 0, 1) := by decide +kernel
theorem dX7_startFrom_27 : decode cX7_startFrom 27 = .ok (.getfield 9, 3) := by decide +kernel
theorem dX7_startFrom_30 : decode cX7_startFrom 30 = .ok (.iconst 0, 1) := by decide +kernel
theorem dX7_startFrom_31 : decode cX7_startFrom 31 = .ok (.invokestatic 39, 3) := by decide +kernel
theorem dX7_startFrom_34 : decode cX7_startFrom 34 = .ok (.return_, 1) := by decide +kernel
set_option maxRecDepth 100000 in
theorem SX7_startFrom_0 {g : zG} {o : Bool} {a s : Nat} (ha : zSt a s) {t : Nat} (ht : zSd t) {M : zM} {q : zM → Prop} {x2 : Int} (W : ∃ q1 : zM → Prop, zKv g (z1 o) mX5_copy [zA g s, zA g t] M q1 ∧ ∀ M3 : zM, q1 M3 → ∀ N6 : zM, N6 = zu M3 s 3 x2 → ∀ N8 : zM, N8 = zu N6 a 3 0 → ∃ q10 : zM → Prop, zKv g (z1 o) mJ7_fill_53178 [zA g (a + 1), zI 0] (zu N8 a 4 0) q10 ∧ ∀ M12 : zM, q10 M12 → q M12) : zT g (z1 o) mX7_startFrom (zQv (z1 o) q) 0 [(0, zA g a), (1, zA g t), (2, zI x2)] [] M := by
  refine zr_aload_n 0 dX7_startFrom_0 rfl ?_
  refine zr_getr (b := s) dX7_startFrom_1 fX7_26 (zst_0 ha) rfl (zst_f1 ha) (zsd_nz (zst_s ha)) ?_
  refine zr_aload_n 1 dX7_startFrom_4 rfl ?_
  obtain ⟨q1, k5, W⟩ := W
  refine zt_callVv (As := [zA g t]) (rest := []) dX7_startFrom_5 kX7_startFrom_30 (zsd_0 (zst_s ha)) rfl rfl rfl (Nat.le_of_ble_eq_true rfl) k5 (fun M3 h4 => ?_)
  have W := W M3 h4
  refine zr_aload_n 0 dX7_startFrom_8 rfl ?_
  refine zr_getr (b := s) dX7_startFrom_9 fX7_26 (zst_0 ha) rfl (zst_f1 ha) (zsd_nz (zst_s ha)) ?_
  refine zr_iload_n 2 dX7_startFrom_12 rfl ?_
  refine zt_puti 3 rfl dX7_startFrom_13 fX7_36 lcX5 ltX5_3 rfl (zsd_0 (zst_s ha)) ?_
  refine zr_aload_n 0 dX7_startFrom_16 rfl ?_
  refine zr_iconst dX7_startFrom_17 ?_
  obtain ⟨N6, e7⟩ : ∃ N : zM, N = zu M3 s 3 x2 := ⟨_, rfl⟩
  rw [← e7]
  have W := W N6 e7
  refine zt_puti 3 rfl dX7_startFrom_18 fX7_15 lcX7 ltX7_3 rfl (zst_0 ha) ?_
  refine zr_aload_n 0 dX7_startFrom_21 rfl ?_
  refine zr_iconst dX7_startFrom_22 ?_
  obtain ⟨N8, e9⟩ : ∃ N : zM, N = zu N6 a 3 0 := ⟨_, rfl⟩
  rw [← e9]
  have W := W N8 e9
  refine zt_puti 4 rfl dX7_startFrom_23 fX7_19 lcX7 ltX7_4 rfl (zst_0 ha) ?_
  refine zr_aload_n 0 dX7_startFrom_26 rfl ?_
  refine zr_getr (b := (a + 1)) dX7_startFrom_27 fX7_9 (zst_0 ha) rfl (zst_f2 ha) (Nat.succ_ne_zero _) ?_
  refine zr_iconst dX7_startFrom_30 ?_
  obtain ⟨q10, k14, W⟩ := W
  refine zt_callSv (As := [zA g (a + 1), zI 0]) (rest := []) dX7_startFrom_31 kX7_startFrom_39 rfl rfl (Nat.le_of_ble_eq_true rfl) k14 (fun M12 h13 => ?_)
  have W := W M12 h13
  exact zt_ret dX7_startFrom_34 rfl W
/-- n tries: how many were not idle -/
noncomputable def blwS (C R S : Int) (wd G : Int → Int) (hop sh st bt : Int) : Nat → Sx → Sx
  | 0, x => x
  | n + 1, x => blwS C R S wd G hop sh st bt n (tryS C R S wd G hop sh st bt x)
noncomputable def blwN (C R S : Int) (wd G : Int → Int) (hop sh st bt : Int) : Nat → Sx → Int
  | 0, _ => 0
  | n + 1, x => zb (tryB C R wd G sh x) + blwN C R S wd G hop sh st bt n (tryS C R S wd G hop sh st bt x)
section CB
variable {g : zG} {o : Bool} {M M' : zM} {C R S c w sd hp B T t x v : Int} {s a b h : Nat} {X H : Int → Int}
theorem wnd_congr (h1 : M' 14 = M 14) (h2 : M' 18 = M 18) (h3 : M' 19 = M 19) : wnd M' = wnd M := by
  funext t; unfold wnd; rw [h1, h2, h3]
theorem c_blow (ha : zSt a s) (n : Nat) (hn : n ≤ 500) (hL : zLand M C R) (hO : SandOK M s B T) (hB : 0 ≤ B ∧ B < 900000000) (hT : T ≤ 1900000000) :
    zKi g (z1 o) mX7_blowOn [zA g a, zI n] M (fun r M' => r = blwN C R (M 14 3) (wnd M) (M (s + 2)) (M (s + 3) 0) (M (s + 3) 1) (M (s + 3) 2) (M (s + 3) 3) n (zgx M a s) ∧ zgx M' a s = blwS C R (M 14 3) (wnd M) (M (s + 2)) (M (s + 3) 0) (M (s + 3) 1) (M (s + 3) 2) (M (s + 3) 3) n (zgx M a s) ∧ zfr M M' a s ∧ SandOK M' s (B + n) (T + n)) := by
  have hne := zst_ne ha
  refine zki_of rfl (Nat.le_of_ble_eq_true rfl) (SX7_blowOn_0 ha ?_)
  suffices h : ∀ (j : Nat) (i y : Int) (M1 : zM) (B1 T1 : Int), 0 ≤ i → i + j = n → zfr M M1 a s → SandOK M1 s B1 T1 → 0 ≤ B1 → B1 + j = B + n → T1 + j = T + n → zT g (z1 o) mX7_blowOn (zQi (z1 o) (fun r M' => r = y + blwN C R (M 14 3) (wnd M) (M (s + 2)) (M (s + 3) 0) (M (s + 3) 1) (M (s + 3) 2) (M (s + 3) 3) j (zgx M1 a s) ∧ zgx M' a s = blwS C R (M 14 3) (wnd M) (M (s + 2)) (M (s + 3) 0) (M (s + 3) 1) (M (s + 3) 2) (M (s + 3) 3) j (zgx M1 a s) ∧ zfr M M' a s ∧ SandOK M' s (B + n) (T + n))) 4 [(0, zA g a), (1, zI n), (2, zI y), (3, zI i)] [] M1 by
    have hh := h n 0 0 M B T (by omega) (by omega) (fun _ _ _ _ _ => rfl) hO hB.1 (by omega) (by omega)
    simp only [Int.zero_add] at hh
    exact hh
  intro j
  induction j with
  | zero =>
    intro i y M1 B1 T1 h0 hi hf hO1 hb e1 e2
    refine SX7_blowOn_4 ha ⟨by omega, by omega, fun h => ⟨by show y = y + 0; omega, rfl, hf, ?_⟩, fun h => by omega⟩
    rw [← e1, ← e2]; simpa using hO1
  | succ j ih =>
    intro i y M1 B1 T1 h0 hi hf hO1 hb e1 e2
    have hL1 := zfr.L ha hL hf
    have f14 : M1 14 = M 14 := hf 14 (by omega) (by omega) (by omega) (by omega)
    have fw : wnd M1 = wnd M := wnd_congr f14 (hf 18 (by omega) (by omega) (by omega) (by omega)) (hf 19 (by omega) (by omega) (by omega) (by omega))
    have f2 : M1 (s + 2) = M (s + 2) := hf _ (by omega) (by omega) (by omega) (by omega)
    have f3 : M1 (s + 3) = M (s + 3) := hf _ (by omega) (by omega) (by omega) (by omega)
    have ht := c_try (g := g) (o := o) ha hL1 hO1 ⟨hb, by omega⟩ (by omega)
    rw [fw, f14, f2, f3] at ht
    refine SX7_blowOn_4 ha ⟨by omega, by omega, fun h => by omega, fun h => ⟨_, ht, fun r4 M5 hq => ?_⟩⟩
    obtain ⟨q1, q2, q3, q4⟩ := hq
    have h01 := zb01 (tryB C R (wnd M) (M (s + 2)) (M (s + 3) 1) (zgx M1 a s))
    have hf5 : zfr M M5 a s := fun b h1 h2 h3 h4 => (q3 b h1 h2 h3 h4).trans (hf b h1 h2 h3 h4)
    have key := fun y' => ih (i + 1) y' M5 (B1 + 1) (T1 + 1) (by omega) (by omega) hf5 q4 (by omega) (by omega) (by omega)
    have es : blwS C R (M 14 3) (wnd M) (M (s + 2)) (M (s + 3) 0) (M (s + 3) 1) (M (s + 3) 2) (M (s + 3) 3) (j + 1) (zgx M1 a s) = blwS C R (M 14 3) (wnd M) (M (s + 2)) (M (s + 3) 0) (M (s + 3) 1) (M (s + 3) 2) (M (s + 3) 3) j (zgx M5 a s) := by rw [q2]; rfl
    have en : blwN C R (M 14 3) (wnd M) (M (s + 2)) (M (s + 3) 0) (M (s + 3) 1) (M (s + 3) 2) (M (s + 3) 3) (j + 1) (zgx M1 a s) = r4 + blwN C R (M 14 3) (wnd M) (M (s + 2)) (M (s + 3) 0) (M (s + 3) 1) (M (s + 3) 2) (M (s + 3) 3) j (zgx M5 a s) := by rw [q2, q1]; rfl
    rw [es, en]
    refine ⟨by omega, fun h => ?_, fun h => ?_⟩
    · have hk := key y
      rw [h, Int.zero_add]
      exact hk
    · have hk := key (y + 1)
      rw [show r4 = 1 by omega, ← Int.add_assoc]
      exact hk
/-- a row filled -/
theorem c_fill {n : Nat} (hh : zh (z1 o) h = (1, n)) (hz : h ≠ 0) (hn : n ≤ 100000) : zKv g (z1 o) mJ7_fill_53178 [zA g h, zI v] M (fun M' => M' = zrw M h (fun i => if 0 ≤ i ∧ i < n then v else M h i)) := by
  refine zkv_of rfl (Nat.le_of_ble_eq_true rfl) (SJ7_fill_53178_0 hh hz hn ?_)
  suffices hs : ∀ (j : Nat) (i : Int), 0 ≤ i → i + j = n → zT g (z1 o) mJ7_fill_53178 (zQv (z1 o) (fun M' => M' = zrw M h (fun i => if 0 ≤ i ∧ i < n then v else M h i))) 5 [(0, zA g h), (1, zI v), (2, zI i), (3, zI (n : Int))] [] (zrw M h (fun k => if 0 ≤ k ∧ k < i then v else M h k)) by
    have hh := hs n 0 (by omega) (by omega)
    have e : (fun k : Int => if 0 ≤ k ∧ k < 0 then v else M h k) = M h := by funext k; rw [if_neg (by omega)]
    rw [e, zrw_self] at hh
    exact hh
  intro j
  induction j with
  | zero =>
    intro i h0 hi
    refine SJ7_fill_53178_5 hh hz hn ⟨by omega, by omega, fun h => ?_, fun h => by omega⟩
    rw [show i = (n : Int) by omega]
  | succ j ih =>
    intro i h0 hi
    refine SJ7_fill_53178_5 hh hz hn ⟨by omega, by omega, fun h9 => by omega, fun h9 => ⟨by omega, ?_⟩⟩
    have hk := ih (i + 1) (by omega) (by omega)
    have e : zu (zrw M h (fun k => if 0 ≤ k ∧ k < i then v else M h k)) h i v = zrw M h (fun k => if 0 ≤ k ∧ k < i + 1 then v else M h k) := by
      rw [zu_zrw, zrw_row, zrw_zrw]
      congr 1
      funext k
      unfold up
      by_cases hk : k = i
      · rw [if_pos hk, if_pos (by omega)]
      · rw [if_neg hk]
        dsimp only
        by_cases hk2 : 0 ≤ k ∧ k < i
        · rw [if_pos hk2, if_pos (by omega)]
        · rw [if_neg hk2, if_neg (by omega)]
    rw [e]; exact hk
/-- one Sand becomes another one -/
def zsame (M M' : zM) (s t : Nat) : Prop := (∀ i : Int, 0 ≤ i → i < 96 → M' (s + 1) i = M (t + 1) i ∧ M' (s + 2) i = M (t + 2) i) ∧ (∀ i : Int, 0 ≤ i → i < 4 → M' (s + 3) i = M (t + 3) i) ∧ M' s 3 = M t 3 ∧ M' s 4 = M t 4
def zfs (M M' : zM) (s : Nat) : Prop := ∀ b : Nat, b ≠ s → b ≠ s + 1 → b ≠ s + 2 → b ≠ s + 3 → M' b = M b
theorem zsd_apart (hs : zSd s) {t : Nat} (ht : zSd t) : s = t ∨ (s + 4 ≤ t ∨ t + 4 ≤ s) := by
  have h : ∀ s ∈ zsds, ∀ t ∈ zsds, s = t ∨ (s + 4 ≤ t ∨ t + 4 ≤ s) := by decide +kernel
  exact h s hs t ht
theorem c_copy (hs : zSd s) {t : Nat} (ht : zSd t) : zKv g (z1 o) mX5_copy [zA g s, zA g t] M (fun M' => zsame M M' s t ∧ zfs M M' s) := by
  have hap := zsd_apart hs ht
  have key : ∀ (f k : Int → Int) (n i : Int), 0 ≤ i → i < n → zcpy f k 0 0 n i = f i := fun f k n i h0 h1 => by
    unfold zcpy; rw [if_pos (by omega)]; congr 1; omega
  refine zkv_of rfl (Nat.le_of_ble_eq_true rfl) (SX5_copy_0 hs ht fun N1 e1 N3 e3 N5 e5 N7 e7 => ?_)
  refine ⟨⟨fun i h0 h1 => ⟨?_, ?_⟩, fun i h0 h1 => ?_, ?_, ?_⟩, fun b h1 h2 h3 h4 => ?_⟩
  · rw [zu_other (by omega), e7, zu_other (by omega), e5, zrw_other (by omega), e3, zrw_other (by omega), e1, zrw_row, key _ _ _ _ h0 h1]
  · rw [zu_other (by omega), e7, zu_other (by omega), e5, zrw_other (by omega), e3, zrw_row, key _ _ _ _ h0 h1, e1, zrw_other (by omega)]
  · rw [zu_other (by omega), e7, zu_other (by omega), e5, zrw_row, key _ _ _ _ h0 h1, e3, zrw_other (by omega), e1, zrw_other (by omega)]
  · rw [zu_row, if_neg (by decide), e7, zu_at, e5, zrw_other (by omega), e3, zrw_other (by omega), e1, zrw_other (by omega)]
  · rw [zu_at, e7]
    by_cases hst : t = s
    · subst hst; rw [zu_row, if_neg (by decide), e5, zrw_other (by omega), e3, zrw_other (by omega), e1, zrw_other (by omega)]
    · rw [zu_other hst, e5, zrw_other (by omega), e3, zrw_other (by omega), e1, zrw_other (by omega)]
  · rw [zu_other h1, e7, zu_other h1, e5, zrw_other h4, e3, zrw_other h3, e1, zrw_other h2]
end CB
