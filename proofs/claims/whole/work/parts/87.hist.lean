theorem z_si : Cond.instanceMethod mX5_init.1 ∈ zt ∧ mX5_init.1.name = "<init>" ∧ mX5_init.2.2.2.1 = none := ⟨zc1 216 (by decide +kernel) rfl, rfl, rfl⟩
theorem zsd_h : ∀ i, i < 21 → 37 + 4 * i + 1 ∈ zsds := by decide
theorem n_hist {g : zG} {r : List Nat} {M : zM} : zC g mX1_init (85, 4242) [zA g 36] (Sp zSL1 zFL1 36 [(36, zer 3), (1, r)]) M (fun v σ M1 => v = none ∧ σ = Sp zSL1 zFL1 121 [(1, r)] ∧ (∀ i : Nat, i < 21 → M1 37 (i : Int) = ((38 + 4 * i : Nat) : Int)) ∧ ∀ c : Nat, c < 36 ∨ 121 < c → M1 c = M c) := by
  refine zC_of rfl (Nat.le_of_ble_eq_true rfl) ?_
  refine zr_aload_n 0 dX1_init_0 rfl ?_
  refine zr_oinit dX1_init_1 oX1_init (by decide) ?_
  refine zr_aload_n 0 dX1_init_4 rfl ?_
  refine zr_bipush dX1_init_5 (by decide) ?_
  refine zn_sands (n := 36) (m := 21) dX1_init_7 (zc2 37 (by decide +kernel) rfl) rfl (by decide) rfl (hp2 (by decide) (by decide)) rfl ⟨by decide, by decide⟩ ?_
  refine zn_put dX1_init_10 fX1_11 lcX1 ltX1_0 rfl rfl rfl rfl (sp_zh (a := 35) (by decide) rfl) (by decide) (by decide) ?_
  rw [show Sp zSL1 zFL1 (36 + 1) [(36, (zer 3).set 0 (36 + 1)), (1, r)] = Sp zSL1 zFL1 37 [(1, r)] from sp_drop rfl]
  refine zr_aload_n 0 dX1_init_13 rfl ?_
  refine zr_iconst dX1_init_14 ?_
  refine zr_puti dX1_init_15 fX1_17 lcX1 ltX1_1 rfl (sp_zh (a := 35) (by decide) rfl) ?_
  refine zr_aload_n 0 dX1_init_18 rfl ?_
  refine zr_iconst dX1_init_19 ?_
  refine zr_puti dX1_init_20 fX1_21 lcX1 ltX1_2 rfl (sp_zh (a := 35) (by decide) rfl) ?_
  refine zr_iconst dX1_init_23 ?_
  refine zr_istore_n (l' := [(0, zA g 36), (1, zI 0)]) dX1_init_24 (by decide) [1, 0] rfl ?_
  have lp : ∀ (f i n k1 k2 : Nat) (N : zM), i + f = 21 → n = 37 + 4 * i → k1 = 1 + 4 * i → k2 = 21 + 201 * i → (∀ j : Nat, j < i → N 37 (j : Int) = ((38 + 4 * j : Nat) : Int)) → (∀ c : Nat, c < 36 ∨ 121 < c → N c = M c) → zR g mX1_init (85, 4242) (Sp zSL1 zFL1 36 [(36, zer 3), (1, r)]) (fun v σ M1 => v = none ∧ σ = Sp zSL1 zFL1 121 [(1, r)] ∧ (∀ i : Nat, i < 21 → M1 37 (i : Int) = ((38 + 4 * i : Nat) : Int)) ∧ ∀ c : Nat, c < 36 ∨ 121 < c → M1 c = M c) 25 [(0, zA g 36), (1, zI (i : Int))] [] (k1, k2) (Sp zSL1 zFL1 n [(1, r)]) N := by
    intro f
    induction f with
    | zero =>
      intro i n k1 k2 N hi hn h1 h2 h37 hc
      have ei : i = 21 := by omega
      subst ei
      subst hn
      subst h1
      subst h2
      refine zr_iload_n 1 dX1_init_25 rfl ?_
      refine zr_bipush dX1_init_26 (by decide) ?_
      refine zr_icmp_gt (tgt := 50) dX1_init_28 (by decide) ⟨by decide, by decide⟩ ⟨by decide, by decide⟩ (fun _ => ?_) (fun h => absurd h (by decide))
      exact zr_return dX1_init_50 rfl rfl ⟨rfl, rfl, h37, hc⟩
    | succ f ih =>
      intro i n k1 k2 N hi hn h1 h2 h37 hc
      have hx : zSd (n + 1) := by rw [hn]; exact zsd_h i (by omega)
      have mk := zsd_mk (n + 1) hx
      have h36 : zh (Sp zSL1 zFL1 n [(1, r)]) 36 = (0, 1) := sp_zh (a := 35) (by omega) rfl
      have hb : (Sp zSL1 zFL1 n [(1, r)]).2.2 36 0 = 37 := by
        show (spl zFL1 n [(1, r)] 36).getD 0 0 = 37
        rw [spl_no (hp1 (by decide)) (by omega)]; rfl
      refine zr_iload_n 1 dX1_init_25 rfl ?_
      refine zr_bipush dX1_init_26 (by decide) ?_
      refine zr_icmp_gt (tgt := 50) dX1_init_28 (by decide) ⟨by omega, by omega⟩ ⟨by decide, by decide⟩ (fun h => by omega) (fun _ => ?_)
      refine zr_aload_n 0 dX1_init_31 rfl ?_
      refine zr_getr (b := 37) dX1_init_32 fX1_11 h36 rfl hb (by decide) ?_
      refine zr_iload_n 1 dX1_init_35 rfl ?_
      refine zn_obj (n := n) 5 dX1_init_36 nwX1_init_9 (by have := mk.1.1; rwa [Nat.add_sub_cancel] at this) ⟨by show k1 + 1 ≤ 85; omega, by show k2 + 5 ≤ 4242; omega⟩ ?_
      refine zr_dup dX1_init_39 rfl ?_
      refine zr_callIN (mm' := (3, 196)) (As := []) (rest := [zA g (n + 1), zI (i : Int), zA g 37]) dX1_init_40 kX1_init_24 (by decide) z_si rfl rfl (Nat.le_of_ble_eq_true rfl) ⟨by show k1 + 1 + 3 ≤ 85; omega, by show k2 + 5 + 196 ≤ 4242; omega⟩ (n_sand hx) (fun v σ1 M1 h => ?_)
      obtain ⟨rfl, rfl, e⟩ := h
      have hv : zh (Sp zSL1 zFL1 (n + 1 + 3) [(1, r)]) (n + 1) = (0, 5) := sp_zh (a := n) (by omega) (by have := mk.1.1; rwa [Nat.add_sub_cancel] at this)
      refine zr_aast (ci := 5) dX1_init_43 (sp_zh (a := 36) (by omega) rfl) (by decide) ⟨by omega, by omega⟩ hv ?_
      refine zr_iinc (q := 1) (l' := [(0, zA g 36), (1, zI ((i : Int) + 1))]) dX1_init_44 rfl (by decide) [1, 0] rfl ?_
      refine zr_goto (tgt := 25) dX1_init_47 (by decide) ?_
      refine ih (i + 1) (n + 1 + 3) (k1 + 1 + 3) (k2 + 5 + 196) _ (by omega) (by omega) (by omega) (by omega) (fun j hj => ?_) (fun c hc' => ?_)
      · rw [zu_row]
        by_cases q : j = i
        · subst q
          rw [if_pos rfl]; omega
        · rw [if_neg (by omega), e, zrw_other (by omega), zrw_other (by omega), zrw_other (by omega), zrw_other (by omega)]; exact h37 j (by omega)
      · rw [zu_other (by omega), e, zrw_other (by omega), zrw_other (by omega), zrw_other (by omega), zrw_other (by omega)]; exact hc c hc'
  refine lp 21 0 37 1 21 _ (by decide) (by decide) (by decide) (by decide) (fun j hj => by omega) (fun c hc => ?_)
  rw [zu_other (by omega), zu_other (by omega), zrw_other (by omega)]
theorem z1_len : zSL1.length = 149 ∧ zFL1.length = 150 := by decide +kernel
theorem sp_z1 : Sp zSL1 zFL1 149 [] = z1 true := by
  have e : zSL1.take 149 = zSL1 := List.take_of_length_le (by rw [z1_len.1]; exact Nat.le_refl _)
  unfold Sp z1
  rw [e]
  congr 2
  funext a k
  show (if a ≤ 149 then zFL1.getD a [] else []).getD k 0 = _
  by_cases h : a ≤ 149
  · rw [if_pos h]
  · have hl : zFL1.length ≤ a := by rw [z1_len.2]; omega
    have h0 : zFL1.getD a [] = [] := by rw [List.getD_eq_getElem?_getD, List.getElem?_eq_none hl]; rfl
    rw [if_neg h, h0]
