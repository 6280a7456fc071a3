theorem z_ti : Cond.instanceMethod mX8_init.1 ∈ zt ∧ mX8_init.1.name = "<init>" ∧ mX8_init.2.2.2.1 = none := ⟨zc1 31 (by decide +kernel) rfl, rfl, rfl⟩
theorem z_li : Cond.instanceMethod mX2_init.1 ∈ zt ∧ mX2_init.1.name = "<init>" ∧ mX2_init.2.2.2.1 = none := ⟨zc1 164 (by decide +kernel) rfl, rfl, rfl⟩
theorem sp_m1 {s : List Nat} (h : s = zFL1.getD 1 []) : Sp zSL1 zFL1 (148 + 1) [(1, s)] = z1 true := (sp_drop (P := []) (by rw [h]; rfl)).trans sp_z1
theorem zsd_b : ∀ i, i < 3 → 135 + 4 * i + 1 ∈ zsds := by decide
def mkF (M : zM) : Prop := clP M ∧ M 1 15 = 0 ∧ M 2 1 = 0 ∧ (M 7 2 = 0 ∧ M 7 3 = -1) ∧ (∀ i : Nat, i < 21 → M 37 (i : Int) = ((38 + 4 * i : Nat) : Int)) ∧ ∀ b : Nat, b < 3 → M 135 (b : Int) = ((136 + 4 * b : Nat) : Int)
set_option maxRecDepth 100000 in
theorem n_march {g : zG} {M : zM} : zC g mX9_init (148, 15486) [zA g 1] (Sp zSL1 zFL1 1 [(1, zer 16)]) M (fun v σ M1 => v = none ∧ σ = z1 true ∧ ∃ M0 : zM, mkF M0 ∧ adP 8 4 M0 M1 38) := by
  refine zC_of rfl (Nat.le_of_ble_eq_true rfl) ?_
  refine zr_aload_n 0 dX9_init_0 rfl ?_
  refine zr_oinit dX9_init_1 oX9_init (by decide) ?_
  refine zr_aload_n 0 dX9_init_4 rfl ?_
  refine zn_obj (n := 1) 6 dX9_init_5 nwX9_init_7 rfl ⟨by decide, by decide⟩ ?_
  refine zr_dup dX9_init_8 rfl ?_
  refine zr_callIN (mm' := (4, 3603)) (As := []) (rest := [zA g 2, zA g 1]) dX9_init_9 kX9_init_9 (by decide) z_ti rfl rfl (Nat.le_of_ble_eq_true rfl) ⟨by decide, by decide⟩ n_tape (fun v σ1 T1 h => ?_)
  obtain ⟨rfl, rfl, e1⟩ := h
  have t21 : T1 2 1 = 0 := by rw [e1]; simp [zu, zrw]
  have k1 : ∀ c : Nat, c < 2 → T1 c = M c := fun c hc => by
    rw [e1]
    repeat (first | rw [zrw_other (by omega)] | rw [zu_other (by omega)])
  refine zn_put dX9_init_12 fX9_10 lcX9 ltX9_0 rfl rfl rfl rfl (sp_zh (a := 0) (by decide) rfl) (by decide) (by decide) ?_
  refine zr_aload_n 0 dX9_init_15 rfl ?_
  refine zn_obj (n := 6) 5 dX9_init_16 nwX9_init_16 rfl ⟨by decide, by decide⟩ ?_
  refine zr_dup dX9_init_19 rfl ?_
  refine zr_aload_n 0 dX9_init_20 rfl ?_
  refine zr_getr (b := 2) dX9_init_21 fX9_10 (sp_zh (a := 0) (by decide) rfl) rfl rfl (by decide) ?_
  refine zr_callI (mm' := (6, 225)) (As := [zA g 2]) (rest := [zA g 7, zA g 1]) dX9_init_24 kX9_init_18 rfl rfl (Nat.le_of_ble_eq_true rfl) ⟨by decide, by decide⟩ n_reader (fun v σ1 T2 h => ?_)
  obtain ⟨rfl, rfl, cl2, w2, e2⟩ := h
  have k2 : ∀ c : Nat, c < 7 → T2 c = T1 c := fun c hc => by rw [e2 c (Or.inl hc), zrw_other (by omega)]
  refine zn_put dX9_init_27 fX9_21 lcX9 ltX9_1 rfl rfl rfl rfl (sp_zh (a := 0) (by decide) rfl) (by decide) (by decide) ?_
  refine zr_aload_n 0 dX9_init_30 rfl ?_
  refine zn_obj (n := 13) 11 dX9_init_31 nwX9_init_25 rfl ⟨by decide, by decide⟩ ?_
  refine zr_dup dX9_init_34 rfl ?_
  refine zr_callIN (mm' := (5, 592)) (As := []) (rest := [zA g 14, zA g 1]) dX9_init_35 kX9_init_27 (by decide) z_li rfl rfl (Nat.le_of_ble_eq_true rfl) ⟨by decide, by decide⟩ n_land (fun v σ1 T3 h => ?_)
  obtain ⟨rfl, rfl, e3⟩ := h
  have k3 : ∀ c : Nat, c < 14 → T3 c = T2 c := fun c hc => by
    rw [e3]
    repeat (first | rw [zrw_other (by omega)] | rw [zu_other (by omega)])
  refine zn_put dX9_init_38 fX9_28 lcX9 ltX9_2 rfl rfl rfl rfl (sp_zh (a := 0) (by decide) rfl) (by decide) (by decide) ?_
  refine zr_aload_n 0 dX9_init_41 rfl ?_
  refine zn_obj (n := 19) 5 dX9_init_42 nwX9_init_32 rfl ⟨by decide, by decide⟩ ?_
  refine zr_dup dX9_init_45 rfl ?_
  refine zr_callIN (mm' := (3, 196)) (As := []) (rest := [zA g 20, zA g 1]) dX9_init_46 kX9_init_34 (by decide) z_si rfl rfl (Nat.le_of_ble_eq_true rfl) ⟨by decide, by decide⟩ (n_sand (x := 20) (by unfold zSd; decide)) (fun v σ1 T4 h => ?_)
  obtain ⟨rfl, rfl, e4⟩ := h
  have k4 : ∀ c : Nat, c < 20 → T4 c = T3 c := fun c hc => by
    rw [e4]
    repeat (first | rw [zrw_other (by omega)] | rw [zu_other (by omega)])
  refine zn_put dX9_init_49 fX9_35 lcX9 ltX9_3 rfl rfl rfl rfl (sp_zh (a := 0) (by decide) rfl) (by decide) (by decide) ?_
  refine zr_aload_n 0 dX9_init_52 rfl ?_
  refine zn_obj (n := 23) 5 dX9_init_53 nwX9_init_32 rfl ⟨by decide, by decide⟩ ?_
  refine zr_dup dX9_init_56 rfl ?_
  refine zr_callIN (mm' := (3, 196)) (As := []) (rest := [zA g 24, zA g 1]) dX9_init_57 kX9_init_34 (by decide) z_si rfl rfl (Nat.le_of_ble_eq_true rfl) ⟨by decide, by decide⟩ (n_sand (x := 24) (by unfold zSd; decide)) (fun v σ1 T5 h => ?_)
  obtain ⟨rfl, rfl, e5⟩ := h
  have k5 : ∀ c : Nat, c < 24 → T5 c = T4 c := fun c hc => by
    rw [e5]
    repeat (first | rw [zrw_other (by omega)] | rw [zu_other (by omega)])
  refine zn_put dX9_init_60 fX9_39 lcX9 ltX9_4 rfl rfl rfl rfl (sp_zh (a := 0) (by decide) rfl) (by decide) (by decide) ?_
  refine zr_aload_n 0 dX9_init_63 rfl ?_
  refine zn_obj (n := 27) 5 dX9_init_64 nwX9_init_32 rfl ⟨by decide, by decide⟩ ?_
  refine zr_dup dX9_init_67 rfl ?_
  refine zr_callIN (mm' := (3, 196)) (As := []) (rest := [zA g 28, zA g 1]) dX9_init_68 kX9_init_34 (by decide) z_si rfl rfl (Nat.le_of_ble_eq_true rfl) ⟨by decide, by decide⟩ (n_sand (x := 28) (by unfold zSd; decide)) (fun v σ1 T6 h => ?_)
  obtain ⟨rfl, rfl, e6⟩ := h
  have k6 : ∀ c : Nat, c < 28 → T6 c = T5 c := fun c hc => by
    rw [e6]
    repeat (first | rw [zrw_other (by omega)] | rw [zu_other (by omega)])
  refine zn_put dX9_init_71 fX9_42 lcX9 ltX9_5 rfl rfl rfl rfl (sp_zh (a := 0) (by decide) rfl) (by decide) (by decide) ?_
  refine zr_aload_n 0 dX9_init_74 rfl ?_
  refine zn_obj (n := 31) 5 dX9_init_75 nwX9_init_45 rfl ⟨by decide, by decide⟩ ?_
  refine zr_dup dX9_init_78 rfl ?_
  refine zr_aload_n 0 dX9_init_79 rfl ?_
  refine zr_getr (b := 14) dX9_init_80 fX9_28 (sp_zh (a := 0) (by decide) rfl) rfl rfl (by decide) ?_
  refine zr_aload_n 0 dX9_init_83 rfl ?_
  refine zr_getr (b := 24) dX9_init_84 fX9_39 (sp_zh (a := 0) (by decide) rfl) rfl rfl (by decide) ?_
  refine zr_callI (mm' := (1, 12)) (As := [zA g 14, zA g 24]) (rest := [zA g 32, zA g 1]) dX9_init_87 kX9_init_47 rfl rfl (Nat.le_of_ble_eq_true rfl) ⟨by decide, by decide⟩ n_storm32 (fun v σ1 T7 h => ?_)
  obtain ⟨rfl, rfl, e7⟩ := h
  have k7 : ∀ c : Nat, c < 32 → T7 c = T6 c := fun c hc => by
    rw [e7]
    repeat (first | rw [zrw_other (by omega)] | rw [zu_other (by omega)])
  refine zn_put dX9_init_90 fX9_50 lcX9 ltX9_6 rfl rfl rfl rfl (sp_zh (a := 0) (by decide) rfl) (by decide) (by decide) ?_
  refine zr_aload_n 0 dX9_init_93 rfl ?_
  refine zn_obj (n := 33) 5 dX9_init_94 nwX9_init_45 rfl ⟨by decide, by decide⟩ ?_
  refine zr_dup dX9_init_97 rfl ?_
  refine zr_aload_n 0 dX9_init_98 rfl ?_
  refine zr_getr (b := 14) dX9_init_99 fX9_28 (sp_zh (a := 0) (by decide) rfl) rfl rfl (by decide) ?_
  refine zr_aload_n 0 dX9_init_102 rfl ?_
  refine zr_getr (b := 28) dX9_init_103 fX9_42 (sp_zh (a := 0) (by decide) rfl) rfl rfl (by decide) ?_
  refine zr_callI (mm' := (1, 12)) (As := [zA g 14, zA g 28]) (rest := [zA g 34, zA g 1]) dX9_init_106 kX9_init_47 rfl rfl (Nat.le_of_ble_eq_true rfl) ⟨by decide, by decide⟩ n_storm34 (fun v σ1 T8 h => ?_)
  obtain ⟨rfl, rfl, e8⟩ := h
  have k8 : ∀ c : Nat, c < 34 → T8 c = T7 c := fun c hc => by
    rw [e8]
    repeat (first | rw [zrw_other (by omega)] | rw [zu_other (by omega)])
  refine zn_put dX9_init_109 fX9_54 lcX9 ltX9_7 rfl rfl rfl rfl (sp_zh (a := 0) (by decide) rfl) (by decide) (by decide) ?_
  refine zr_aload_n 0 dX9_init_112 rfl ?_
  refine zn_obj (n := 35) 3 dX9_init_113 nwX9_init_57 rfl ⟨by decide, by decide⟩ ?_
  refine zr_dup dX9_init_116 rfl ?_
  refine zr_callI (mm' := (85, 4242)) (As := []) (rest := [zA g 36, zA g 1]) dX9_init_117 kX9_init_59 rfl rfl (Nat.le_of_ble_eq_true rfl) ⟨by decide, by decide⟩ n_hist (fun v σ1 T9 h => ?_)
  obtain ⟨rfl, rfl, h37, e9⟩ := h
  have k9 : ∀ c : Nat, c < 36 → T9 c = T8 c := fun c hc => by rw [e9 c (Or.inl hc), zrw_other (by omega)]
  refine zn_put dX9_init_120 fX9_60 lcX9 ltX9_8 rfl rfl rfl rfl (sp_zh (a := 0) (by decide) rfl) (by decide) (by decide) ?_
  refine zr_aload_n 0 dX9_init_123 rfl ?_
  refine zn_obj (n := 121) 9 dX9_init_124 nwX9_init_64 rfl ⟨by decide, by decide⟩ ?_
  refine zr_dup dX9_init_127 rfl ?_
  refine zr_aload_n 0 dX9_init_128 rfl ?_
  refine zr_getr (b := 14) dX9_init_129 fX9_28 (sp_zh (a := 0) (by decide) rfl) rfl rfl (by decide) ?_
  refine zr_aload_n 0 dX9_init_132 rfl ?_
  refine zr_getr (b := 20) dX9_init_133 fX9_35 (sp_zh (a := 0) (by decide) rfl) rfl rfl (by decide) ?_
  refine zr_aload_n 0 dX9_init_136 rfl ?_
  refine zr_getr (b := 28) dX9_init_137 fX9_42 (sp_zh (a := 0) (by decide) rfl) rfl rfl (by decide) ?_
  refine zr_aload_n 0 dX9_init_140 rfl ?_
  refine zr_getr (b := 34) dX9_init_141 fX9_54 (sp_zh (a := 0) (by decide) rfl) rfl rfl (by decide) ?_
  refine zr_callI (mm' := (4, 4860)) (As := [zA g 14, zA g 20, zA g 28, zA g 34]) (rest := [zA g 122, zA g 1]) dX9_init_144 kX9_init_66 rfl rfl (Nat.le_of_ble_eq_true rfl) ⟨by decide, by decide⟩ n_sights (fun v σ1 T10 h => ?_)
  obtain ⟨rfl, rfl, e10⟩ := h
  have k10 : ∀ c : Nat, c < 122 → T10 c = T9 c := fun c hc => by
    rw [e10]
    repeat (first | rw [zrw_other (by omega)] | rw [zu_other (by omega)])
  refine zn_put dX9_init_147 fX9_69 lcX9 ltX9_9 rfl rfl rfl rfl (sp_zh (a := 0) (by decide) rfl) (by decide) (by decide) ?_
  refine zr_aload_n 0 dX9_init_150 rfl ?_
  refine zn_obj (n := 126) 6 dX9_init_151 nwX9_init_73 rfl ⟨by decide, by decide⟩ ?_
  refine zr_dup dX9_init_154 rfl ?_
  refine zr_aload_n 0 dX9_init_155 rfl ?_
  refine zr_getr (b := 14) dX9_init_156 fX9_28 (sp_zh (a := 0) (by decide) rfl) rfl rfl (by decide) ?_
  refine zr_callI (mm' := (3, 288)) (As := [zA g 14]) (rest := [zA g 127, zA g 1]) dX9_init_159 kX9_init_75 rfl rfl (Nat.le_of_ble_eq_true rfl) ⟨by decide, by decide⟩ n_lumps127 (fun v σ1 T11 h => ?_)
  obtain ⟨rfl, rfl, e11⟩ := h
  have k11 : ∀ c : Nat, c < 127 → T11 c = T10 c := fun c hc => by
    rw [e11]
    repeat (first | rw [zrw_other (by omega)] | rw [zu_other (by omega)])
  refine zn_put dX9_init_162 fX9_78 lcX9 ltX9_10 rfl rfl rfl rfl (sp_zh (a := 0) (by decide) rfl) (by decide) (by decide) ?_
  refine zr_aload_n 0 dX9_init_165 rfl ?_
  refine zn_obj (n := 130) 6 dX9_init_166 nwX9_init_73 rfl ⟨by decide, by decide⟩ ?_
  refine zr_dup dX9_init_169 rfl ?_
  refine zr_aload_n 0 dX9_init_170 rfl ?_
  refine zr_getr (b := 14) dX9_init_171 fX9_28 (sp_zh (a := 0) (by decide) rfl) rfl rfl (by decide) ?_
  refine zr_callI (mm' := (3, 288)) (As := [zA g 14]) (rest := [zA g 131, zA g 1]) dX9_init_174 kX9_init_75 rfl rfl (Nat.le_of_ble_eq_true rfl) ⟨by decide, by decide⟩ n_lumps131 (fun v σ1 T12 h => ?_)
  obtain ⟨rfl, rfl, e12⟩ := h
  have k12 : ∀ c : Nat, c < 131 → T12 c = T11 c := fun c hc => by
    rw [e12]
    repeat (first | rw [zrw_other (by omega)] | rw [zu_other (by omega)])
  refine zn_put dX9_init_177 fX9_82 lcX9 ltX9_11 rfl rfl rfl rfl (sp_zh (a := 0) (by decide) rfl) (by decide) (by decide) ?_
  refine zr_aload_n 0 dX9_init_180 rfl ?_
  refine zr_iconst dX9_init_181 ?_
  refine zn_sands (n := 134) (m := 3) dX9_init_182 (zc1 213 (by decide +kernel) rfl) rfl (by decide) rfl (hp1 (by decide)) rfl ⟨by decide, by decide⟩ ?_
  refine zn_put dX9_init_185 fX9_85 lcX9 ltX9_12 rfl rfl rfl rfl (sp_zh (a := 0) (by decide) rfl) (by decide) (by decide) ?_
  refine zr_iconst dX9_init_188 ?_
  refine zr_istore_n (l' := [(0, zA g 1), (1, zI 0)]) dX9_init_189 (by decide) [1, 0] rfl ?_
  have lp : ∀ (f i n k1 k2 : Nat) (N : zM), i + f = 3 → n = 135 + 4 * i → k1 = 134 + 4 * i → k2 = 14784 + 201 * i → (∀ j : Nat, j < i → N 135 (j : Int) = ((136 + 4 * j : Nat) : Int)) → (∀ c : Nat, c < 135 → N c = T12 c) → zR g mX9_init (148, 15486) (Sp zSL1 zFL1 1 [(1, zer 16)]) (fun v σ M1 => v = none ∧ σ = z1 true ∧ ∃ M0 : zM, mkF M0 ∧ adP 8 4 M0 M1 38) 190 [(0, zA g 1), (1, zI (i : Int))] [] (k1, k2) (Sp zSL1 zFL1 n [(1, (((((((((((((zer 16).set 0 2).set 1 7).set 2 14).set 3 20).set 4 24).set 5 28).set 6 32).set 7 34).set 8 36).set 9 122).set 10 127).set 11 131).set 12 135)]) N := by
    intro f
    induction f with
    | zero =>
      intro i n k1 k2 NL hi hn h1 h2 h135 hc
      have ei : i = 3 := by omega
      subst ei
      subst hn
      subst h1
      subst h2
      refine zr_iload_n 1 dX9_init_190 rfl ?_
      refine zr_iconst dX9_init_191 ?_
      refine zr_icmp_ge (tgt := 214) dX9_init_192 (by decide) ⟨by decide, by decide⟩ ⟨by decide, by decide⟩ (fun _ => ?_) (fun h => absurd h (by decide))
      refine zr_aload_n 0 dX9_init_214 rfl ?_
      refine zr_iconst dX9_init_215 ?_
      refine zn_arr (n := 147) (kd := 2) (m := 3) dX9_init_216 (Or.inr (Or.inl ⟨rfl, rfl⟩)) z_az rfl (by decide) rfl (hp1 (by decide)) rfl ⟨by decide, by decide⟩ ?_
      refine zn_put dX9_init_218 fX9_89 lcX9 ltX9_13 rfl rfl rfl rfl (sp_zh (a := 0) (by decide) rfl) (by decide) (by decide) ?_
      refine zr_aload_n 0 dX9_init_221 rfl ?_
      refine zr_bipush dX9_init_222 (by decide) ?_
      refine zn_arr (n := 148) (kd := 1) (m := 96) dX9_init_224 (Or.inl ⟨rfl, rfl⟩) z_ai rfl (by decide) rfl (hp1 (by decide)) rfl ⟨by decide, by decide⟩ ?_
      refine zn_put dX9_init_226 fX9_93 lcX9 ltX9_14 rfl rfl rfl rfl (sp_zh (a := 0) (by decide) rfl) (by decide) (by decide) ?_
      rw [sp_m1 (s := (((((((((((((((zer 16).set 0 2).set 1 7).set 2 14).set 3 20).set 4 24).set 5 28).set 6 32).set 7 34).set 8 36).set 9 122).set 10 127).set 11 131).set 12 135).set 13 148).set 14 149) rfl]
      refine zr_aload_n 0 dX9_init_229 rfl ?_
      refine zr_iconst dX9_init_230 ?_
      refine zr_puti dX9_init_231 fX9_97 lcX9 ltX9_15 rfl rfl ?_
      refine zr_aload_n 0 dX9_init_234 rfl ?_
      refine zr_aload_n 0 dX9_init_235 rfl ?_
      refine zr_getr (b := 7) dX9_init_236 fX9_21 rfl rfl rfl (by decide) ?_
      refine zr_getr (b := 8) dX9_init_239 fX9_101 rfl rfl rfl (by decide) ?_
      have mf : mkF (zu (zrw (zrw (NL) 148 (fun _ => 0)) 149 (fun _ => 0)) 1 15 0) := by
        have kl : ∀ c : Nat, c < 135 → c ≠ 1 → (zu (zrw (zrw (NL) 148 (fun _ => 0)) 149 (fun _ => 0)) 1 15 0) c = T12 c := fun c hc' h1 => by rw [zu_other h1, zrw_other (by omega), zrw_other (by omega), hc c hc']
        have k13 : ∀ c : Nat, c < 14 → c ≠ 1 → (zu (zrw (zrw (NL) 148 (fun _ => 0)) 149 (fun _ => 0)) 1 15 0) c = T2 c := fun c hc' h1 => by rw [kl c (by omega) h1, k12 c (by omega), k11 c (by omega), k10 c (by omega), k9 c (by omega), k8 c (by omega), k7 c (by omega), k6 c (by omega), k5 c (by omega), k4 c (by omega), k3 c (by omega)]
        have k37 : (zu (zrw (zrw (NL) 148 (fun _ => 0)) 149 (fun _ => 0)) 1 15 0) 37 = T9 37 := by rw [kl 37 (by omega) (by omega), k12 37 (by omega), k11 37 (by omega), k10 37 (by omega)]
        refine ⟨cl2.of (fun c c8 c13 => k13 c (by omega) (by omega)), zu_at _ _ _ _, ?_, ⟨?_, ?_⟩, fun i hi => ?_, fun b hb => ?_⟩
        · rw [k13 2 (by decide) (by decide), k2 2 (by decide)]; exact t21
        · rw [k13 7 (by decide) (by decide)]; exact w2.1
        · rw [k13 7 (by decide) (by decide)]; exact w2.2
        · rw [k37]; exact h37 i hi
        · rw [zu_other (by decide), zrw_other (by decide), zrw_other (by decide)]; exact h135 b hb
      have dk : dOK (zu (zrw (zrw (NL) 148 (fun _ => 0)) 149 (fun _ => 0)) 1 15 0) 8 4 := by
        have hd := mf.1.dJ.ok
        rw [mf.1.1.1, mf.1.1.2.1] at hd
        exact hd
      refine zr_callV (mm' := (0, 0)) (As := [zA g 8]) (rest := []) (a := 1) (ci := 9) dX9_init_242 kX9_init_105 rfl rfl rfl rfl (Nat.le_of_ble_eq_true rfl) ⟨by decide, by decide⟩ (c_adopt (e := 38) dk (mf.2.2.2.2.1 0 (by decide)) (by decide)) (fun v σ1 M1 h => ?_)
      obtain ⟨rfl, rfl, ha⟩ := h
      exact zr_return dX9_init_245 rfl rfl ⟨rfl, rfl, _, mf, ha⟩
    | succ f ih =>
      intro i n k1 k2 N hi hn h1 h2 h135 hc
      have hx : zSd (n + 1) := by rw [hn]; exact zsd_b i (by omega)
      have mk := zsd_mk (n + 1) hx
      refine zr_iload_n 1 dX9_init_190 rfl ?_
      refine zr_iconst dX9_init_191 ?_
      refine zr_icmp_ge (tgt := 214) dX9_init_192 (by decide) ⟨by omega, by omega⟩ ⟨by decide, by decide⟩ (fun h => by omega) (fun _ => ?_)
      refine zr_aload_n 0 dX9_init_195 rfl ?_
      refine zr_getr (b := 135) dX9_init_196 fX9_85 (sp_zh (a := 0) (by omega) rfl) rfl rfl (by decide) ?_
      refine zr_iload_n 1 dX9_init_199 rfl ?_
      refine zn_obj (n := n) 5 dX9_init_200 nwX9_init_32 (by have := mk.1.1; rwa [Nat.add_sub_cancel] at this) ⟨by show k1 + 1 ≤ 148; omega, by show k2 + 5 ≤ 15486; omega⟩ ?_
      refine zr_dup dX9_init_203 rfl ?_
      refine zr_callIN (mm' := (3, 196)) (As := []) (rest := [zA g (n + 1), zI (i : Int), zA g 135]) dX9_init_204 kX9_init_34 (by decide) z_si rfl rfl (Nat.le_of_ble_eq_true rfl) ⟨by show k1 + 1 + 3 ≤ 148; omega, by show k2 + 5 + 196 ≤ 15486; omega⟩ (n_sand hx) (fun v σ1 M1 h => ?_)
      obtain ⟨rfl, rfl, e⟩ := h
      have hv : zh (Sp zSL1 zFL1 (n + 1 + 3) [(1, (((((((((((((zer 16).set 0 2).set 1 7).set 2 14).set 3 20).set 4 24).set 5 28).set 6 32).set 7 34).set 8 36).set 9 122).set 10 127).set 11 131).set 12 135)]) (n + 1) = (0, 5) := sp_zh (a := n) (by omega) (by have := mk.1.1; rwa [Nat.add_sub_cancel] at this)
      refine zr_aast (ci := 5) dX9_init_207 (sp_zh (a := 134) (by omega) rfl) (by decide) ⟨by omega, by omega⟩ hv ?_
      refine zr_iinc (q := 1) (l' := [(0, zA g 1), (1, zI ((i : Int) + 1))]) dX9_init_208 rfl (by decide) [1, 0] rfl ?_
      refine zr_goto (tgt := 190) dX9_init_211 (by decide) ?_
      refine ih (i + 1) (n + 1 + 3) (k1 + 1 + 3) (k2 + 5 + 196) _ (by omega) (by omega) (by omega) (by omega) (fun j hj => ?_) (fun c hc' => ?_)
      · rw [zu_row]
        by_cases q : j = i
        · subst q
          rw [if_pos rfl]; omega
        · rw [if_neg (by omega), e, zrw_other (by omega), zrw_other (by omega), zrw_other (by omega), zrw_other (by omega)]; exact h135 j (by omega)
      · rw [zu_other (by omega), e, zrw_other (by omega), zrw_other (by omega), zrw_other (by omega), zrw_other (by omega)]; exact hc c hc'
  refine lp 3 0 135 _ _ _ (by decide) (by decide) (by decide) (by decide) (fun j hj => by omega) (fun c hc => ?_)
  rw [zrw_other (by omega)]

