theorem zsd_mk : ∀ x ∈ zsds, (zSL1[x - 1]? = some (0, 5) ∧ 1 ≤ x) ∧ zSL1[x]? = some (1, 96) ∧ zSL1[x + 1]? = some (1, 96) ∧ zSL1[x + 2]? = some (1, 4) ∧ zFL1.getD (x + 1) [] = [] ∧ zFL1.getD (x + 2) [] = [] ∧ zFL1.getD (x + 3) [] = [] ∧ zFL1.getD x [] = [x + 1, x + 2, x + 3, 0, 0] := by decide +kernel
theorem n_sand {g : zG} {r : List Nat} {M : zM} {x : Nat} (hx : zSd x) : zC g mX5_init (3, 196) [zA g x] (Sp zSL1 zFL1 x [(x, zer 5), (1, r)]) M (fun v σ M1 => v = none ∧ σ = Sp zSL1 zFL1 (x + 3) [(1, r)] ∧ M1 = zrw (zrw (zrw M (x + 1) (fun _ => 0)) (x + 2) (fun _ => 0)) (x + 3) (fun _ => 0)) := by
  obtain ⟨⟨h0, hx1⟩, h1, h2, h3, f1, f2, f3, f0⟩ := zsd_mk x hx
  have lo := zsd_lo hx
  have hz : ∀ (n : Nat) (P : List (Nat × List Nat)), x ≤ n → zh (Sp zSL1 zFL1 n P) x = (0, 5) := fun n P hn => by
    have := sp_zh (FL := zFL1) (P := P) (n := n) (a := x - 1) (by omega) h0
    rwa [Nat.sub_add_cancel hx1] at this
  refine zC_of rfl (Nat.le_of_ble_eq_true rfl) ?_
  refine zr_aload_n 0 dX5_init_0 rfl ?_
  refine zr_oinit dX5_init_1 oX5_init (by decide) ?_
  refine zr_aload_n 0 dX5_init_4 rfl ?_
  refine zr_bipush dX5_init_5 (by decide) ?_
  refine zn_arr (kd := 1) (m := 96) dX5_init_7 (Or.inl ⟨rfl, rfl⟩) z_ai rfl (by decide) h1 (hp2 (by omega) (by omega)) f1 ⟨by decide, by decide⟩ ?_
  refine zn_put dX5_init_9 fX5_9 lcX5 ltX5_0 rfl rfl rfl rfl (hz _ _ (by omega)) (by omega) (Nat.le_of_ble_eq_true rfl) ?_
  refine zr_aload_n 0 dX5_init_12 rfl ?_
  refine zr_bipush dX5_init_13 (by decide) ?_
  refine zn_arr (kd := 1) (m := 96) dX5_init_15 (Or.inl ⟨rfl, rfl⟩) z_ai rfl (by decide) h2 (hp2 (by omega) (by omega)) f2 ⟨by decide, by decide⟩ ?_
  refine zn_put dX5_init_17 fX5_15 lcX5 ltX5_1 rfl rfl rfl rfl (hz _ _ (by omega)) (by omega) (Nat.le_of_ble_eq_true rfl) ?_
  refine zr_aload_n 0 dX5_init_20 rfl ?_
  refine zr_iconst dX5_init_21 ?_
  refine zn_arr (kd := 1) (m := 4) dX5_init_22 (Or.inl ⟨rfl, rfl⟩) z_ai rfl (by decide) h3 (hp2 (by omega) (by omega)) f3 ⟨by decide, by decide⟩ ?_
  refine zn_put dX5_init_24 fX5_18 lcX5 ltX5_2 rfl rfl rfl rfl (hz _ _ (by omega)) (by omega) (Nat.le_of_ble_eq_true rfl) ?_
  refine zr_return dX5_init_27 rfl rfl ⟨rfl, ?_, rfl⟩
  refine sp_drop ?_
  rw [spl_no (hp1 (by omega)) (by omega), f0]
  rfl
theorem RJ7_fill_53178_0 {g : zG} {σ : zS} {h0 n0 : Nat} (hh0 : zh σ h0 = (1, n0)) (hz0 : h0 ≠ 0) (hn0 : n0 ≤ 100000) {M : zM} {q : zM → Prop} {x1 : Int} (W : zT g σ mJ7_fill_53178 (zQv σ q) 5 [(0, zA g h0), (1, zI x1), (2, zI 0), (3, zI (n0 : Int))] [] M) : zT g σ mJ7_fill_53178 (zQv σ q) 0 [(0, zA g h0), (1, zI x1)] [] M := by
  refine zr_iconst dJ7_fill_53178_0 ?_
  refine zr_istore_n (l' := [(0, zA g h0), (1, zI x1), (2, zI 0)]) dJ7_fill_53178_1 (by decide) [1, 2, 0] rfl ?_
  refine zr_aload_n 0 dJ7_fill_53178_2 rfl ?_
  refine zr_alen dJ7_fill_53178_3 hh0 (by decide) ?_
  refine zr_istore_n (l' := [(0, zA g h0), (1, zI x1), (2, zI 0), (3, zI (n0 : Int))]) dJ7_fill_53178_4 (by decide) [1, 2, 3, 0] rfl ?_
  exact W
set_option maxRecDepth 100000 in
theorem RJ7_fill_53178_5 {g : zG} {σ : zS} {h0 n0 : Nat} (hh0 : zh σ h0 = (1, n0)) (hz0 : h0 ≠ 0) (hn0 : n0 ≤ 100000) {M : zM} {q : zM → Prop} {x1 x2 x3 : Int} (W : (-2147483648 ≤ x2 ∧ x2 ≤ 2147483647) ∧ (-2147483648 ≤ x3 ∧ x3 ≤ 2147483647) ∧ ((x3 ≤ x2) → q M) ∧ ((¬ (x3 ≤ x2)) → (0 ≤ x2 ∧ x2 < n0) ∧ zT g σ mJ7_fill_53178 (zQv σ q) 5 [(0, zA g h0), (1, zI x1), (2, zI (x2 + 1)), (3, zI x3)] [] (zu M h0 x2 x1))) : zT g σ mJ7_fill_53178 (zQv σ q) 5 [(0, zA g h0), (1, zI x1), (2, zI x2), (3, zI x3)] [] M := by
  refine zr_iload_n 2 dJ7_fill_53178_5 rfl ?_
  refine zr_iload_n 3 dJ7_fill_53178_6 rfl ?_
  obtain ⟨c1, W⟩ := W
  obtain ⟨c2, W⟩ := W
  refine zr_icmp_ge (tgt := 20) dJ7_fill_53178_7 (by decide) c1 c2 (fun h => ?_) (fun h => ?_)
  · have W := W.1 h
    exact zt_ret dJ7_fill_53178_20 rfl W
  · have W := W.2 h
    refine zr_aload_n 0 dJ7_fill_53178_10 rfl ?_
    refine zr_iload_n 2 dJ7_fill_53178_11 rfl ?_
    refine zr_iload_n 1 dJ7_fill_53178_12 rfl ?_
    obtain ⟨c3, W⟩ := W
    refine zr_iast dJ7_fill_53178_13 hh0 hn0 c3 ?_
    refine zr_iinc (q := 2) (l' := [(0, zA g h0), (1, zI x1), (2, zI (x2 + 1)), (3, zI x3)]) dJ7_fill_53178_14 rfl (by decide) [1, 2, 0, 3] rfl ?_
    refine zr_goto (tgt := 5) dJ7_fill_53178_17 (by decide) ?_
    exact W

theorem c_fillS {g : zG} {σ : zS} {M : zM} {h : Nat} {v : Int} {n : Nat} (hh : zh σ h = (1, n)) (hz : h ≠ 0) (hn : n ≤ 100000) : zKv g σ mJ7_fill_53178 [zA g h, zI v] M (fun M' => M' = zrw M h (fun i => if 0 ≤ i ∧ i < n then v else M h i)) := by
  refine zkv_of rfl (Nat.le_of_ble_eq_true rfl) (RJ7_fill_53178_0 hh hz hn ?_)
  suffices hs : ∀ (j : Nat) (i : Int), 0 ≤ i → i + j = n → zT g σ mJ7_fill_53178 (zQv σ (fun M' => M' = zrw M h (fun i => if 0 ≤ i ∧ i < n then v else M h i))) 5 [(0, zA g h), (1, zI v), (2, zI i), (3, zI (n : Int))] [] (zrw M h (fun k => if 0 ≤ k ∧ k < i then v else M h k)) by
    have hh := hs n 0 (by omega) (by omega)
    have e : (fun k : Int => if 0 ≤ k ∧ k < 0 then v else M h k) = M h := by funext k; rw [if_neg (by omega)]
    rw [e, zrw_self] at hh
    exact hh
  intro j
  induction j with
  | zero =>
    intro i h0 hi
    refine RJ7_fill_53178_5 hh hz hn ⟨by omega, by omega, fun h => ?_, fun h => by omega⟩
    rw [show i = (n : Int) by omega]
  | succ j ih =>
    intro i h0 hi
    refine RJ7_fill_53178_5 hh hz hn ⟨by omega, by omega, fun h9 => by omega, fun h9 => ⟨by omega, ?_⟩⟩
    have hk := ih (i + 1) (by omega) (by omega)
    have e : zu (zrw M h (fun k => if 0 ≤ k ∧ k < i then v else M h k)) h i v = zrw M h (fun k => if 0 ≤ k ∧ k < i + 1 then v else M h k) := by
      rw [zu_zrw, zrw_row, zrw_zrw]
      congr 1
      funext k
      unfold up
      by_cases hk : k = i
      · rw [if_pos hk, if_pos (by omega)]
      · rw [if_neg hk]
        dsimp only
        by_cases hk2 : 0 ≤ k ∧ k < i
        · rw [if_pos hk2, if_pos (by omega)]
        · rw [if_neg hk2, if_neg (by omega)]
    rw [e]; exact hk
def zs8 (r : List Nat) : zS := Sp zSL1 zFL1 13 [(8, (((((zer 13).set 8 9).set 9 10).set 10 11).set 11 12).set 12 13), (7, zer 5), (1, r)]
set_option maxRecDepth 100000 in
theorem RX0_clear_0 {g : zG} {r : List Nat} {M : zM} {q : zM → Prop} (W : ∀ N1 : zM, N1 = zu M 8 0 8 → ∀ N3 : zM, N3 = zu N1 8 1 4 → ∀ N5 : zM, N5 = zu N3 8 2 3 → ∀ N7 : zM, N7 = zu N5 8 3 2 → ∀ N9 : zM, N9 = zu N7 8 4 0 → ∀ N11 : zM, N11 = zu N9 8 5 0 → ∀ N13 : zM, N13 = zu N11 8 7 0 → ∀ N15 : zM, N15 = zu N13 9 0 2 → ∀ N17 : zM, N17 = zu N15 9 1 2 → ∀ N19 : zM, N19 = zu N17 9 2 10 → ∃ q21 : zM → Prop, zKv g (zs8 r) mJ7_fill_53178 [zA g 10, zI 0] (zu N19 9 3 6) q21 ∧ ∀ M23 : zM, q21 M23 → ∃ q26 : zM → Prop, zKv g (zs8 r) mJ7_fill_53178 [zA g 11, zI 0] M23 q26 ∧ ∀ M28 : zM, q26 M28 → ∀ N31 : zM, N31 = zu M28 8 6 1 → ∀ N33 : zM, N33 = zu N31 12 0 0 → q (zu N33 13 0 1)) : zT g (zs8 r) mX0_clear (zQv (zs8 r) q) 0 [(0, zA g 8)] [] M := by
  refine zr_aload_n 0 dX0_clear_0 rfl ?_
  refine zr_bipush dX0_clear_1 (by decide) ?_
  refine zt_puti 0 rfl dX0_clear_3 fX0_30 lcX0 ltX0_0 rfl rfl ?_
  refine zr_aload_n 0 dX0_clear_6 rfl ?_
  refine zr_iconst dX0_clear_7 ?_
  obtain ⟨N1, e2⟩ : ∃ N : zM, N = zu M 8 0 8 := ⟨_, rfl⟩
  rw [← e2]
  have W := W N1 e2
  refine zt_puti 1 rfl dX0_clear_8 fX0_34 lcX0 ltX0_1 rfl rfl ?_
  refine zr_aload_n 0 dX0_clear_11 rfl ?_
  refine zr_iconst dX0_clear_12 ?_
  obtain ⟨N3, e4⟩ : ∃ N : zM, N = zu N1 8 1 4 := ⟨_, rfl⟩
  rw [← e4]
  have W := W N3 e4
  refine zt_puti 2 rfl dX0_clear_13 fX0_37 lcX0 ltX0_2 rfl rfl ?_
  refine zr_aload_n 0 dX0_clear_16 rfl ?_
  refine zr_iconst dX0_clear_17 ?_
  obtain ⟨N5, e6⟩ : ∃ N : zM, N = zu N3 8 2 3 := ⟨_, rfl⟩
  rw [← e6]
  have W := W N5 e6
  refine zt_puti 3 rfl dX0_clear_18 fX0_40 lcX0 ltX0_3 rfl rfl ?_
  refine zr_aload_n 0 dX0_clear_21 rfl ?_
  refine zr_iconst dX0_clear_22 ?_
  obtain ⟨N7, e8⟩ : ∃ N : zM, N = zu N5 8 3 2 := ⟨_, rfl⟩
  rw [← e8]
  have W := W N7 e8
  refine zt_puti 4 rfl dX0_clear_23 fX0_43 lcX0 ltX0_4 rfl rfl ?_
  refine zr_aload_n 0 dX0_clear_26 rfl ?_
  refine zr_iconst dX0_clear_27 ?_
  obtain ⟨N9, e10⟩ : ∃ N : zM, N = zu N7 8 4 0 := ⟨_, rfl⟩
  rw [← e10]
  have W := W N9 e10
  refine zt_puti 5 rfl dX0_clear_28 fX0_46 lcX0 ltX0_5 rfl rfl ?_
  refine zr_aload_n 0 dX0_clear_31 rfl ?_
  refine zr_iconst dX0_clear_32 ?_
  obtain ⟨N11, e12⟩ : ∃ N : zM, N = zu N9 8 5 0 := ⟨_, rfl⟩
  rw [← e12]
  have W := W N11 e12
  refine zt_puti 7 rfl dX0_clear_33 fX0_49 lcX0 ltX0_7 rfl rfl ?_
  refine zr_aload_n 0 dX0_clear_36 rfl ?_
  refine zr_getr (b := 9) dX0_clear_37 fX0_9 rfl rfl rfl (by decide) ?_
  refine zr_iconst dX0_clear_40 ?_
  refine zr_iconst dX0_clear_41 ?_
  obtain ⟨N13, e14⟩ : ∃ N : zM, N = zu N11 8 7 0 := ⟨_, rfl⟩
  rw [← e14]
  have W := W N13 e14
  refine zr_iast dX0_clear_42 rfl (by decide) ⟨by decide, by decide⟩ ?_
  refine zr_aload_n 0 dX0_clear_43 rfl ?_
  refine zr_getr (b := 9) dX0_clear_44 fX0_9 rfl rfl rfl (by decide) ?_
  refine zr_iconst dX0_clear_47 ?_
  refine zr_iconst dX0_clear_48 ?_
  obtain ⟨N15, e16⟩ : ∃ N : zM, N = zu N13 9 0 2 := ⟨_, rfl⟩
  rw [← e16]
  have W := W N15 e16
  refine zr_iast dX0_clear_49 rfl (by decide) ⟨by decide, by decide⟩ ?_
  refine zr_aload_n 0 dX0_clear_50 rfl ?_
  refine zr_getr (b := 9) dX0_clear_51 fX0_9 rfl rfl rfl (by decide) ?_
  refine zr_iconst dX0_clear_54 ?_
  refine zr_bipush dX0_clear_55 (by decide) ?_
  obtain ⟨N17, e18⟩ : ∃ N : zM, N = zu N15 9 1 2 := ⟨_, rfl⟩
  rw [← e18]
  have W := W N17 e18
  refine zr_iast dX0_clear_57 rfl (by decide) ⟨by decide, by decide⟩ ?_
  refine zr_aload_n 0 dX0_clear_58 rfl ?_
  refine zr_getr (b := 9) dX0_clear_59 fX0_9 rfl rfl rfl (by decide) ?_
  refine zr_iconst dX0_clear_62 ?_
  refine zr_bipush dX0_clear_63 (by decide) ?_
  obtain ⟨N19, e20⟩ : ∃ N : zM, N = zu N17 9 2 10 := ⟨_, rfl⟩
  rw [← e20]
  have W := W N19 e20
  refine zr_iast dX0_clear_65 rfl (by decide) ⟨by decide, by decide⟩ ?_
  refine zr_aload_n 0 dX0_clear_66 rfl ?_
  refine zr_getr (b := 10) dX0_clear_67 fX0_15 rfl rfl rfl (by decide) ?_
  refine zr_iconst dX0_clear_70 ?_
  obtain ⟨q21, k25, W⟩ := W
  refine zt_callSv (As := [zA g 10, zI 0]) (rest := []) dX0_clear_71 kX0_clear_52 rfl rfl (Nat.le_of_ble_eq_true rfl) k25 (fun M23 h24 => ?_)
  have W := W M23 h24
  refine zr_aload_n 0 dX0_clear_74 rfl ?_
  refine zr_getr (b := 11) dX0_clear_75 fX0_18 rfl rfl rfl (by decide) ?_
  refine zr_iconst dX0_clear_78 ?_
  obtain ⟨q26, k30, W⟩ := W
  refine zt_callSv (As := [zA g 11, zI 0]) (rest := []) dX0_clear_79 kX0_clear_52 rfl rfl (Nat.le_of_ble_eq_true rfl) k30 (fun M28 h29 => ?_)
  have W := W M28 h29
  refine zr_aload_n 0 dX0_clear_82 rfl ?_
  refine zr_iconst dX0_clear_83 ?_
  refine zt_puti 6 rfl dX0_clear_84 fX0_58 lcX0 ltX0_6 rfl rfl ?_
  refine zr_aload_n 0 dX0_clear_87 rfl ?_
  refine zr_getr (b := 12) dX0_clear_88 fX0_21 rfl rfl rfl (by decide) ?_
  refine zr_iconst dX0_clear_91 ?_
  refine zr_iconst dX0_clear_92 ?_
  obtain ⟨N31, e32⟩ : ∃ N : zM, N = zu M28 8 6 1 := ⟨_, rfl⟩
  rw [← e32]
  have W := W N31 e32
  refine zr_iast dX0_clear_93 rfl (by decide) ⟨by decide, by decide⟩ ?_
  refine zr_aload_n 0 dX0_clear_94 rfl ?_
  refine zr_getr (b := 13) dX0_clear_95 fX0_24 rfl rfl rfl (by decide) ?_
  refine zr_iconst dX0_clear_98 ?_
  refine zr_iconst dX0_clear_99 ?_
  obtain ⟨N33, e34⟩ : ∃ N : zM, N = zu N31 12 0 0 := ⟨_, rfl⟩
  rw [← e34]
  have W := W N33 e34
  refine zr_iast dX0_clear_100 rfl (by decide) ⟨by decide, by decide⟩ ?_
  exact zt_ret dX0_clear_101 rfl W
theorem n_clear {g : zG} {r : List Nat} {M : zM} : zKv g (zs8 r) mX0_clear [zA g 8] M (fun N => clP N ∧ ∀ c : Nat, c < 8 ∨ 13 < c → N c = M c) := by
  refine zkv_of rfl (Nat.le_of_ble_eq_true rfl) (RX0_clear_0 (fun N1 e1 N3 e3 N5 e5 N7 e7 N9 e9 N11 e11 N13 e13 N15 e15 N17 e17 N19 e19 => ⟨_, c_fillS (h := 10) (n := 96) (v := 0) rfl (by decide) (by decide), fun M23 e23 => ⟨_, c_fillS (h := 11) (n := 96) (v := 0) rfl (by decide) (by decide), fun M28 e28 N31 e31 N33 e33 => ?_⟩⟩))
  have r8 : ∀ j : Int, N33 8 j = if j = 6 then 1 else if j = 7 then 0 else if j = 5 then 0 else if j = 4 then 0 else if j = 3 then 2 else if j = 2 then 3 else if j = 1 then 4 else if j = 0 then 8 else M 8 j := fun j => by
    rw [e33, zu_other (by decide), e31, zu_row, e28, zrw_other (by decide), e23, zrw_other (by decide), zu_other (by decide), e19, zu_other (by decide), e17, zu_other (by decide), e15, zu_other (by decide), e13, zu_row, e11, zu_row, e9, zu_row, e7, zu_row, e5, zu_row, e3, zu_row, e1, zu_row]
  have r9 : ∀ j : Int, N33 9 j = if j = 3 then 6 else if j = 2 then 10 else if j = 1 then 2 else if j = 0 then 2 else N13 9 j := fun j => by
    rw [e33, zu_other (by decide), e31, zu_other (by decide), e28, zrw_other (by decide), e23, zrw_other (by decide), zu_row, e19, zu_row, e17, zu_row, e15, zu_row]
  have ro : ∀ c : Nat, c ≠ 8 → c ≠ 9 → c ≠ 10 → c ≠ 11 → c ≠ 12 → N33 c = M c := fun c h8 h9 h10 h11 h12 => by
    rw [e33, zu_other h12, e31, zu_other h8, e28, zrw_other h11, e23, zrw_other h10, zu_other h9, e19, zu_other h9, e17, zu_other h9, e15, zu_other h9, e13, zu_other h8, e11, zu_other h8, e9, zu_other h8, e7, zu_other h8, e5, zu_other h8, e3, zu_other h8, e1, zu_other h8]
  refine ⟨⟨?_, ?_, fun c c0 c1 => ⟨?_, ?_⟩, ?_, zu_at _ _ _ _⟩, fun c hc => by rw [zu_other (by omega), ro c (by omega) (by omega) (by omega) (by omega) (by omega)]⟩
  · rw [zu_other (by decide), r8, r8, r8, r8, r8, r8, r8, r8]
    simp
  · rw [zu_other (by decide), r9, r9, r9, r9]
    simp
  · rw [zu_other (by decide), e33, zu_other (by decide), e31, zu_other (by decide), e28, zrw_other (by decide), e23, zrw_row, if_pos ⟨c0, by omega⟩]
  · rw [zu_other (by decide), e33, zu_other (by decide), e31, zu_other (by decide), e28, zrw_row, if_pos ⟨c0, by omega⟩]
  · rw [zu_other (by decide), e33, zu_at]
theorem n_draft {g : zG} {r : List Nat} {M : zM} : zC g mX0_init (5, 212) [zA g 8] (Sp zSL1 zFL1 8 [(8, zer 13), (7, zer 5), (1, r)]) M (fun v σ M1 => v = none ∧ σ = Sp zSL1 zFL1 13 [(7, zer 5), (1, r)] ∧ clP M1 ∧ ∀ c : Nat, c < 8 ∨ 13 < c → M1 c = M c) := by
  refine zC_of rfl (Nat.le_of_ble_eq_true rfl) ?_
  refine zr_aload_n 0 dX0_init_0 rfl ?_
  refine zr_oinit dX0_init_1 oX0_init (by decide) ?_
  refine zr_aload_n 0 dX0_init_4 rfl ?_
  refine zr_iconst dX0_init_5 ?_
  refine zn_arr (n := 8) (kd := 1) (m := 4) dX0_init_6 (Or.inl ⟨rfl, rfl⟩) z_ai rfl (by decide) rfl (hp3 (by decide) (by decide) (by decide)) rfl ⟨by decide, by decide⟩ ?_
  refine zn_put dX0_init_8 fX0_9 lcX0 ltX0_8 rfl rfl rfl rfl (sp_zh (a := 7) (by decide) rfl) (by decide) (by decide) ?_
  refine zr_aload_n 0 dX0_init_11 rfl ?_
  refine zr_bipush dX0_init_12 (by decide) ?_
  refine zn_arr (n := 9) (kd := 1) (m := 96) dX0_init_14 (Or.inl ⟨rfl, rfl⟩) z_ai rfl (by decide) rfl (hp3 (by decide) (by decide) (by decide)) rfl ⟨by decide, by decide⟩ ?_
  refine zn_put dX0_init_16 fX0_15 lcX0 ltX0_9 rfl rfl rfl rfl (sp_zh (a := 7) (by decide) rfl) (by decide) (by decide) ?_
  refine zr_aload_n 0 dX0_init_19 rfl ?_
  refine zr_bipush dX0_init_20 (by decide) ?_
  refine zn_arr (n := 10) (kd := 1) (m := 96) dX0_init_22 (Or.inl ⟨rfl, rfl⟩) z_ai rfl (by decide) rfl (hp3 (by decide) (by decide) (by decide)) rfl ⟨by decide, by decide⟩ ?_
  refine zn_put dX0_init_24 fX0_18 lcX0 ltX0_10 rfl rfl rfl rfl (sp_zh (a := 7) (by decide) rfl) (by decide) (by decide) ?_
  refine zr_aload_n 0 dX0_init_27 rfl ?_
  refine zr_bipush dX0_init_28 (by decide) ?_
  refine zn_arr (n := 11) (kd := 1) (m := 8) dX0_init_30 (Or.inl ⟨rfl, rfl⟩) z_ai rfl (by decide) rfl (hp3 (by decide) (by decide) (by decide)) rfl ⟨by decide, by decide⟩ ?_
  refine zn_put dX0_init_32 fX0_21 lcX0 ltX0_11 rfl rfl rfl rfl (sp_zh (a := 7) (by decide) rfl) (by decide) (by decide) ?_
  refine zr_aload_n 0 dX0_init_35 rfl ?_
  refine zr_bipush dX0_init_36 (by decide) ?_
  refine zn_arr (n := 12) (kd := 1) (m := 8) dX0_init_38 (Or.inl ⟨rfl, rfl⟩) z_ai rfl (by decide) rfl (hp3 (by decide) (by decide) (by decide)) rfl ⟨by decide, by decide⟩ ?_
  refine zn_put dX0_init_40 fX0_24 lcX0 ltX0_12 rfl rfl rfl rfl (sp_zh (a := 7) (by decide) rfl) (by decide) (by decide) ?_
  refine zr_aload_n 0 dX0_init_43 rfl ?_
  refine zr_callV (mm' := (0, 0)) (As := []) (rest := []) (σ := zs8 r) (a := 8) (ci := 0) dX0_init_44 kX0_init_27 rfl rfl rfl rfl (Nat.le_of_ble_eq_true rfl) ⟨by decide, by decide⟩ n_clear (fun v σ1 M1 h => ?_)
  obtain ⟨rfl, rfl, h1, h2⟩ := h
  refine zr_return dX0_init_47 rfl rfl ⟨rfl, sp_drop rfl, h1, fun c hc => ?_⟩
  rw [h2 c hc, zrw_other (by omega), zrw_other (by omega), zrw_other (by omega), zrw_other (by omega), zrw_other (by omega)]

theorem n_reader {g : zG} {r : List Nat} {M : zM} : zC g mX4_init (6, 225) [zA g 7, zA g 2] (Sp zSL1 zFL1 7 [(7, zer 5), (1, r)]) M (fun v σ M1 => v = none ∧ σ = Sp zSL1 zFL1 13 [(1, r)] ∧ clP M1 ∧ (M1 7 2 = 0 ∧ M1 7 3 = -1) ∧ ∀ c : Nat, c < 7 ∨ 13 < c → M1 c = M c) := by
  refine zC_of rfl (Nat.le_of_ble_eq_true rfl) ?_
  refine zr_aload_n 0 dX4_init_0 rfl ?_
  refine zr_oinit dX4_init_1 oX4_init (by decide) ?_
  refine zr_aload_n 0 dX4_init_4 rfl ?_
  refine zn_obj (n := 7) 13 dX4_init_5 nwX4_init_9 rfl ⟨by decide, by decide⟩ ?_
  refine zr_dup dX4_init_8 rfl ?_
  refine zr_callI (mm' := (5, 212)) (As := []) (rest := [zA g 8, zA g 7]) dX4_init_9 kX4_init_11 rfl rfl (Nat.le_of_ble_eq_true rfl) ⟨by decide, by decide⟩ n_draft (fun v σ1 M1 h => ?_)
  obtain ⟨rfl, rfl, h1, h2⟩ := h
  refine zn_put dX4_init_12 fX4_12 lcX4 ltX4_1 rfl rfl rfl rfl (sp_zh (a := 6) (by decide) rfl) (by decide) (by decide) ?_
  refine zr_aload_n 0 dX4_init_15 rfl ?_
  refine zr_iconst dX4_init_16 ?_
  refine zr_puti dX4_init_17 fX4_18 lcX4 ltX4_2 rfl (sp_zh (a := 6) (by decide) rfl) ?_
  refine zr_aload_n 0 dX4_init_20 rfl ?_
  refine zr_iconst dX4_init_21 ?_
  refine zr_puti dX4_init_22 fX4_22 lcX4 ltX4_3 rfl (sp_zh (a := 6) (by decide) rfl) ?_
  refine zr_aload_n 0 dX4_init_25 rfl ?_
  refine zr_iconst dX4_init_26 ?_
  refine zr_puti dX4_init_27 fX4_25 lcX4 ltX4_4 rfl (sp_zh (a := 6) (by decide) rfl) ?_
  refine zr_aload_n 0 dX4_init_30 rfl ?_
  refine zr_aload_n 1 dX4_init_31 rfl ?_
  refine zn_put dX4_init_32 fX4_28 lcX4 ltX4_0 rfl rfl rfl rfl (sp_zh (a := 6) (by decide) rfl) (by decide) (by decide) ?_
  refine zr_return dX4_init_35 rfl rfl ⟨rfl, sp_drop rfl, ?_, ⟨?_, ?_⟩, fun c hc => ?_⟩
  · exact h1.of (fun c c8 c13 => by rw [zu_other (by omega), zu_other (by omega), zu_other (by omega)])
  · rw [zu_row, if_neg (by decide), zu_row, if_neg (by decide)]; exact zu_at _ _ _ _
  · rw [zu_row, if_neg (by decide)]; exact zu_at _ _ _ _
  · rw [zu_other (by omega), zu_other (by omega), zu_other (by omega), h2 c (by omega), zrw_other (by omega)]
