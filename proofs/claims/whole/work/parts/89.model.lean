theorem dX10_init_0 : decode cX10_init 0 = .ok (.aload_n 0, 1) := by decide +kernel
theorem dX10_init_1 : decode cX10_init 1 = .ok (.invokespecial 1, 3) := by decide +kernel
theorem dX10_init_4 : decode cX10_init 4 = .ok (.aload_n 0, 1) := by decide +kernel
theorem dX10_init_5 : decode cX10_init 5 = .ok (.sipush 900, 3) := by decide +kernel
theorem dX10_init_8 : decode cX10_init 8 = .ok (.newarray .int, 2) := by decide +kernel
theorem dX10_init_10 : decode cX10_init 10 = .ok (.putfield 7, 3) := by decide +kernel
theorem dX10_init_13 : decode cX10_init 13 = .ok (.aload_n 0, 1) := by decide +kernel
theorem dX10_init_14 : decode cX10_init 14 = .ok (.iconst (-1), 1) := by decide +kernel
theorem dX10_init_15 : decode cX10_init 15 = .ok (.putfield 13, 3) := by decide +kernel
theorem dX10_init_18 : decode cX10_init 18 = .ok (.aload_n 0, 1) := by decide +kernel
theorem dX10_init_19 : decode cX10_init 19 = .ok (.iconst (-1), 1) := by decide +kernel
theorem dX10_init_20 : decode cX10_init 20 = .ok (.putfield 17, 3) := by decide +kernel
theorem dX10_init_23 : decode cX10_init 23 = .ok (.aload_n 0, 1) := by decide +kernel
theorem dX10_init_24 : decode cX10_init 24 = .ok (.bipush 20, 2) := by decide +kernel
theorem dX10_init_26 : decode cX10_init 26 = .ok (.newarray .int, 2) := by decide +kernel
theorem dX10_init_28 : decode cX10_init 28 = .ok (.putfield 20, 3) := by decide +kernel
theorem dX10_init_31 : decode cX10_init 31 = .ok (.aload_n 0, 1) := by decide +kernel
theorem dX10_init_32 : decode cX10_init 32 = .ok (.bipush 16, 2) := by decide +kernel
theorem dX10_init_34 : decode cX10_init 34 = .ok (.newarray .int, 2) := by decide +kernel
theorem dX10_init_36 : decode cX10_init 36 = .ok (.putfield 23, 3) := by decide +kernel
theorem dX10_init_39 : decode cX10_init 39 = .ok (.aload_n 0, 1) := by decide +kernel
theorem dX10_init_40 : decode cX10_init 40 = .ok (.bipush 16, 2) := by decide +kernel
theorem dX10_init_42 : decode cX10_init 42 = .ok (.newarray .int, 2) := by decide +kernel
theorem dX10_init_44 : decode cX10_init 44 = .ok (.putfield 26, 3) := by decide +kernel
theorem dX10_init_47 : decode cX10_init 47 = .ok (.aload_n 0, 1) := by decide +kernel
theorem dX10_init_48 : decode cX10_init 48 = .ok (.sipush 192, 3) := by decide +kernel
theorem dX10_init_51 : decode cX10_init 51 = .ok (.newarray .int, 2) := by decide +kernel
theorem dX10_init_53 : decode cX10_init 53 = .ok (.putfield 29, 3) := by decide +kernel
theorem dX10_init_56 : decode cX10_init 56 = .ok (.aload_n 0, 1) := by decide +kernel
theorem dX10_init_57 : decode cX10_init 57 = .ok (.sipush 192, 3) := by decide +kernel
theorem dX10_init_60 : decode cX10_init 60 = .ok (.newarray .int, 2) := by decide +kernel
theorem dX10_init_62 : decode cX10_init 62 = .ok (.putfield 32, 3) := by decide +kernel
theorem dX10_init_65 : decode cX10_init 65 = .ok (.aload_n 0, 1) := by decide +kernel
theorem dX10_init_66 : decode cX10_init 66 = .ok (.bipush 96, 2) := by decide +kernel
theorem dX10_init_68 : decode cX10_init 68 = .ok (.newarray .int, 2) := by decide +kernel
theorem dX10_init_70 : decode cX10_init 70 = .ok (.putfield 35, 3) := by decide +kernel
theorem dX10_init_73 : decode cX10_init 73 = .ok (.aload_n 0, 1) := by decide +kernel
theorem dX10_init_74 : decode cX10_init 74 = .ok (.bipush 8, 2) := by decide +kernel
theorem dX10_init_76 : decode cX10_init 76 = .ok (.newarray .boolean, 2) := by decide +kernel
theorem dX10_init_78 : decode cX10_init 78 = .ok (.putfield 38, 3) := by decide +kernel
theorem dX10_init_81 : decode cX10_init 81 = .ok (.aload_n 0, 1) := by decide +kernel
theorem dX10_init_82 : decode cX10_init 82 = .ok (.sipush 198, 3) := by decide +kernel
theorem dX10_init_85 : decode cX10_init 85 = .ok (.newarray .int, 2) := by decide +kernel
theorem dX10_init_87 : decode cX10_init 87 = .ok (.putfield 42, 3) := by decide +kernel
theorem dX10_init_90 : decode cX10_init 90 = .ok (.aload_n 0, 1) := by decide +kernel
theorem dX10_init_91 : decode cX10_init 91 = .ok (.sipush 198, 3) := by decide +kernel
theorem dX10_init_94 : decode cX10_init 94 = .ok (.newarray .int, 2) := by decide +kernel
theorem dX10_init_96 : decode cX10_init 96 = .ok (.putfield 45, 3) := by decide +kernel
theorem dX10_init_99 : decode cX10_init 99 = .ok (.aload_n 0, 1) := by decide +kernel
theorem dX10_init_100 : decode cX10_init 100 = .ok (.iconst (-1), 1) := by decide +kernel
theorem dX10_init_101 : decode cX10_init 101 = .ok (.putfield 48, 3) := by decide +kernel
theorem dX10_init_104 : decode cX10_init 104 = .ok (.aload_n 0, 1) := by decide +kernel
theorem dX10_init_105 : decode cX10_init 105 = .ok (.sipush 3960, 3) := by decide +kernel
theorem dX10_init_108 : decode cX10_init 108 = .ok (.newarray .int, 2) := by decide +kernel
theorem dX10_init_110 : decode cX10_init 110 = .ok (.putfield 51, 3) := by decide +kernel
theorem dX10_init_113 : decode cX10_init 113 = .ok (.aload_n 0, 1) := by decide +kernel
theorem dX10_init_114 : decode cX10_init 114 = .ok (.bipush 96, 2) := by decide +kernel
theorem dX10_init_116 : decode cX10_init 116 = .ok (.newarray .int, 2) := by decide +kernel
theorem dX10_init_118 : decode cX10_init 118 = .ok (.putfield 54, 3) := by decide +kernel
theorem dX10_init_121 : decode cX10_init 121 = .ok (.aload_n 0, 1) := by decide +kernel
theorem dX10_init_122 : decode cX10_init 122 = .ok (.bipush 96, 2) := by decide +kernel
theorem dX10_init_124 : decode cX10_init 124 = .ok (.newarray .int, 2) := by decide +kernel
theorem dX10_init_126 : decode cX10_init 126 = .ok (.putfield 57, 3) := by decide +kernel
theorem dX10_init_129 : decode cX10_init 129 = .ok (.aload_n 0, 1) := by decide +kernel
theorem dX10_init_130 : decode cX10_init 130 = .ok (.bipush 96, 2) := by decide +kernel
theorem dX10_init_132 : decode cX10_init 132 = .ok (.newarray .int, 2) := by decide +kernel
theorem dX10_init_134 : decode cX10_init 134 = .ok (.putfield 60, 3) := by decide +kernel
theorem dX10_init_137 : decode cX10_init 137 = .ok (.aload_n 0, 1) := by decide +kernel
theorem dX10_init_138 : decode cX10_init 138 = .ok (.sipush 594, 3) := by decide +kernel
theorem dX10_init_141 : decode cX10_init 141 = .ok (.newarray .int, 2) := by decide +kernel
theorem dX10_init_143 : decode cX10_init 143 = .ok (.putfield 63, 3) := by decide +kernel
theorem dX10_init_146 : decode cX10_init 146 = .ok (.aload_n 0, 1) := by decide +kernel
theorem dX10_init_147 : decode cX10_init 147 = .ok (.iconst 3, 1) := by decide +kernel
theorem dX10_init_148 : decode cX10_init 148 = .ok (.newarray .boolean, 2) := by decide +kernel
theorem dX10_init_150 : decode cX10_init 150 = .ok (.putfield 66, 3) := by decide +kernel
theorem dX10_init_153 : decode cX10_init 153 = .ok (.aload_n 0, 1) := by decide +kernel
theorem dX10_init_154 : decode cX10_init 154 = .ok (.bipush 20, 2) := by decide +kernel
theorem dX10_init_156 : decode cX10_init 156 = .ok (.newarray .int, 2) := by decide +kernel
theorem dX10_init_158 : decode cX10_init 158 = .ok (.putfield 69, 3) := by decide +kernel
theorem dX10_init_161 : decode cX10_init 161 = .ok (.aload_n 0, 1) := by decide +kernel
theorem dX10_init_162 : decode cX10_init 162 = .ok (.bipush 20, 2) := by decide +kernel
theorem dX10_init_164 : decode cX10_init 164 = .ok (.newarray .int, 2) := by decide +kernel
theorem dX10_init_166 : decode cX10_init 166 = .ok (.putfield 72, 3) := by decide +kernel
theorem dX10_init_169 : decode cX10_init 169 = .ok (.aload_n 0, 1) := by decide +kernel
theorem dX10_init_170 : decode cX10_init 170 = .ok (.bipush 20, 2) := by decide +kernel
theorem dX10_init_172 : decode cX10_init 172 = .ok (.newarray .int, 2) := by decide +kernel
theorem dX10_init_174 : decode cX10_init 174 = .ok (.putfield 75, 3) := by decide +kernel
theorem dX10_init_177 : decode cX10_init 177 = .ok (.aload_n 0, 1) := by decide +kernel
theorem dX10_init_178 : decode cX10_init 178 = .ok (.bipush 20, 2) := by decide +kernel
theorem dX10_init_180 : decode cX10_init 180 = .ok (.newarray .int, 2) := by decide +kernel
theorem dX10_init_182 : decode cX10_init 182 = .ok (.putfield 78, 3) := by decide +kernel
theorem dX10_init_185 : decode cX10_init 185 = .ok (.aload_n 0, 1) := by decide +kernel
theorem dX10_init_186 : decode cX10_init 186 = .ok (.bipush 20, 2) := by decide +kernel
theorem dX10_init_188 : decode cX10_init 188 = .ok (.newarray .int, 2) := by decide +kernel
theorem dX10_init_190 : decode cX10_init 190 = .ok (.putfield 81, 3) := by decide +kernel
theorem dX10_init_193 : decode cX10_init 193 = .ok (.aload_n 0, 1) := by decide +kernel
theorem dX10_init_194 : decode cX10_init 194 = .ok (.bipush 20, 2) := by decide +kernel
theorem dX10_init_196 : decode cX10_init 196 = .ok (.newarray .int, 2) := by decide +kernel
theorem dX10_init_198 : decode cX10_init 198 = .ok (.putfield 84, 3) := by decide +kernel
theorem dX10_init_201 : decode cX10_init 201 = .ok (.aload_n 0, 1) := by decide +kernel
theorem dX10_init_202 : decode cX10_init 202 = .ok (.bipush 50, 2) := by decide +kernel
theorem dX10_init_204 : decode cX10_init 204 = .ok (.newarray .boolean, 2) := by decide +kernel
theorem dX10_init_206 : decode cX10_init 206 = .ok (.putfield 87, 3) := by decide +kernel
theorem dX10_init_209 : decode cX10_init 209 = .ok (.aload_n 0, 1) := by decide +kernel
theorem dX10_init_210 : decode cX10_init 210 = .ok (.sipush 4800, 3) := by decide +kernel
theorem dX10_init_213 : decode cX10_init 213 = .ok (.newarray .int, 2) := by decide +kernel
theorem dX10_init_215 : decode cX10_init 215 = .ok (.putfield 90, 3) := by decide +kernel
theorem dX10_init_218 : decode cX10_init 218 = .ok (.aload_n 0, 1) := by decide +kernel
theorem dX10_init_219 : decode cX10_init 219 = .ok (.invokevirtual 93, 3) := by decide +kernel
theorem dX10_init_222 : decode cX10_init 222 = .ok (.aload_n 0, 1) := by decide +kernel
theorem dX10_init_223 : decode cX10_init 223 = .ok (.invokevirtual 96, 3) := by decide +kernel
theorem dX10_init_226 : decode cX10_init 226 = .ok (.return_, 1) := by decide +kernel
theorem zr_eqs {g : zG} {d : zD} {mm kw : Nat × Nat} {σ0 σ σ' : zS} {Q : zP} {pc : Nat} {l : List (Nat × Value)} {st : List Value} {M : zM} (e : σ = σ') (k : zR g d mm σ0 Q pc l st kw σ' M) : zR g d mm σ0 Q pc l st kw σ M := e ▸ k
theorem zr_gen {g : zG} {d : zD} {mm kw : Nat × Nat} {σ0 σ : zS} {Q : zP} {pc : Nat} {l : List (Nat × Value)} {st : List Value} {M : zM} (k : ∀ A : zM, A = M → zR g d mm σ0 Q pc l st kw σ A) : zR g d mm σ0 Q pc l st kw σ M := k M rfl
theorem z2_len : zSL2.length = 25 ∧ zFL2.length = 26 := by decide +kernel
theorem sp_z2 : Sp zSL2 zFL2 25 [] = z2 true := by
  have e : zSL2.take 25 = zSL2 := List.take_of_length_le (by rw [z2_len.1]; exact Nat.le_refl _)
  unfold Sp z2
  rw [e]
  congr 2
  funext a k
  show (if a ≤ 25 then zFL2.getD a [] else []).getD k 0 = _
  by_cases h : a ≤ 25
  · rw [if_pos h]
  · have hl : zFL2.length ≤ a := by rw [z2_len.2]; omega
    have h0 : zFL2.getD a [] = [] := by rw [List.getD_eq_getElem?_getD, List.getElem?_eq_none hl]; rfl
    rw [if_neg h, h0]
theorem sp_m2 {s : List Nat} (h : s = zFL2.getD 1 []) : Sp zSL2 zFL2 (24 + 1) [(1, s)] = z2 true := (sp_drop (P := []) (by rw [h]; rfl)).trans sp_z2
theorem dq_dr0 {X M N : zM} (h : DQ X M) (hd : dJ X) (h2 : X 2 1 = 0) (e : ∀ c : Nat, c ≠ 1 → N c = M c) : DR (X 8 0) (X 8 1) X N := by
  have := dq_dr (v := 0) h hd e
  have ez : zu X 2 1 0 = X := by
    funext c j
    unfold zu
    by_cases q : c = 2 ∧ j = 1
    · rw [if_pos q, q.1, q.2]; exact h2.symm
    · rw [if_neg q]
  rwa [ez] at this
set_option maxRecDepth 100000 in
theorem n_model {g : zG} {M M0 : zM} (hM : M 1 = fun _ => 0) (hF : mkF M0) : zC g mX10_init (24, 11651) [zA g 1] (Sp zSL2 zFL2 1 [(1, zer 46)]) M (fun v σ N => v = none ∧ σ = z2 true ∧ ∃ B : zM, tkP 8 4 M0 B N ∧ B 1 1 = 0 ∧ B 1 9 = 0 ∧ B 1 10 = -1 ∧ B 1 26 = -1 ∧ B 1 43 = 0) := by
  refine zC_of rfl (Nat.le_of_ble_eq_true rfl) ?_
  refine zr_aload_n 0 dX10_init_0 rfl ?_
  refine zr_oinit dX10_init_1 oX10_init (by decide) ?_
  refine zr_aload_n 0 dX10_init_4 rfl ?_
  refine zr_sipush dX10_init_5 (by decide) ?_
  refine zn_arr (n := 1) (kd := 1) (m := 900) dX10_init_8 (Or.inl ⟨rfl, rfl⟩) z_ai rfl (by decide) rfl (hp1 (by decide)) rfl ⟨by decide, by decide⟩ ?_
  refine zn_put dX10_init_10 fX10_7 lcX10 ltX10_0 rfl rfl rfl rfl (sp_zh (a := 0) (by decide) rfl) (by decide) (by decide) ?_
  refine zr_aload_n 0 dX10_init_13 rfl ?_
  refine zr_iconst dX10_init_14 ?_
  refine zr_puti dX10_init_15 fX10_13 lcX10 ltX10_8 rfl (sp_zh (a := 0) (by decide) rfl) ?_
  refine zr_aload_n 0 dX10_init_18 rfl ?_
  refine zr_iconst dX10_init_19 ?_
  refine zr_puti dX10_init_20 fX10_17 lcX10 ltX10_10 rfl (sp_zh (a := 0) (by decide) rfl) ?_
  refine zr_aload_n 0 dX10_init_23 rfl ?_
  refine zr_bipush dX10_init_24 (by decide) ?_
  refine zn_arr (n := 2) (kd := 1) (m := 20) dX10_init_26 (Or.inl ⟨rfl, rfl⟩) z_ai rfl (by decide) rfl (hp1 (by decide)) rfl ⟨by decide, by decide⟩ ?_
  refine zn_put dX10_init_28 fX10_20 lcX10 ltX10_12 rfl rfl rfl rfl (sp_zh (a := 0) (by decide) rfl) (by decide) (by decide) ?_
  refine zr_aload_n 0 dX10_init_31 rfl ?_
  refine zr_bipush dX10_init_32 (by decide) ?_
  refine zn_arr (n := 3) (kd := 1) (m := 16) dX10_init_34 (Or.inl ⟨rfl, rfl⟩) z_ai rfl (by decide) rfl (hp1 (by decide)) rfl ⟨by decide, by decide⟩ ?_
  refine zn_put dX10_init_36 fX10_23 lcX10 ltX10_13 rfl rfl rfl rfl (sp_zh (a := 0) (by decide) rfl) (by decide) (by decide) ?_
  refine zr_aload_n 0 dX10_init_39 rfl ?_
  refine zr_bipush dX10_init_40 (by decide) ?_
  refine zn_arr (n := 4) (kd := 1) (m := 16) dX10_init_42 (Or.inl ⟨rfl, rfl⟩) z_ai rfl (by decide) rfl (hp1 (by decide)) rfl ⟨by decide, by decide⟩ ?_
  refine zn_put dX10_init_44 fX10_26 lcX10 ltX10_14 rfl rfl rfl rfl (sp_zh (a := 0) (by decide) rfl) (by decide) (by decide) ?_
  refine zr_aload_n 0 dX10_init_47 rfl ?_
  refine zr_sipush dX10_init_48 (by decide) ?_
  refine zn_arr (n := 5) (kd := 1) (m := 192) dX10_init_51 (Or.inl ⟨rfl, rfl⟩) z_ai rfl (by decide) rfl (hp1 (by decide)) rfl ⟨by decide, by decide⟩ ?_
  refine zn_put dX10_init_53 fX10_29 lcX10 ltX10_15 rfl rfl rfl rfl (sp_zh (a := 0) (by decide) rfl) (by decide) (by decide) ?_
  refine zr_aload_n 0 dX10_init_56 rfl ?_
  refine zr_sipush dX10_init_57 (by decide) ?_
  refine zn_arr (n := 6) (kd := 1) (m := 192) dX10_init_60 (Or.inl ⟨rfl, rfl⟩) z_ai rfl (by decide) rfl (hp1 (by decide)) rfl ⟨by decide, by decide⟩ ?_
  refine zn_put dX10_init_62 fX10_32 lcX10 ltX10_16 rfl rfl rfl rfl (sp_zh (a := 0) (by decide) rfl) (by decide) (by decide) ?_
  refine zr_aload_n 0 dX10_init_65 rfl ?_
  refine zr_bipush dX10_init_66 (by decide) ?_
  refine zn_arr (n := 7) (kd := 1) (m := 96) dX10_init_68 (Or.inl ⟨rfl, rfl⟩) z_ai rfl (by decide) rfl (hp1 (by decide)) rfl ⟨by decide, by decide⟩ ?_
  refine zn_put dX10_init_70 fX10_35 lcX10 ltX10_17 rfl rfl rfl rfl (sp_zh (a := 0) (by decide) rfl) (by decide) (by decide) ?_
  refine zr_aload_n 0 dX10_init_73 rfl ?_
  refine zr_bipush dX10_init_74 (by decide) ?_
  refine zn_arr (n := 8) (kd := 2) (m := 8) dX10_init_76 (Or.inr (Or.inl ⟨rfl, rfl⟩)) z_az rfl (by decide) rfl (hp1 (by decide)) rfl ⟨by decide, by decide⟩ ?_
  refine zn_put dX10_init_78 fX10_38 lcX10 ltX10_18 rfl rfl rfl rfl (sp_zh (a := 0) (by decide) rfl) (by decide) (by decide) ?_
  refine zr_aload_n 0 dX10_init_81 rfl ?_
  refine zr_sipush dX10_init_82 (by decide) ?_
  refine zn_arr (n := 9) (kd := 1) (m := 198) dX10_init_85 (Or.inl ⟨rfl, rfl⟩) z_ai rfl (by decide) rfl (hp1 (by decide)) rfl ⟨by decide, by decide⟩ ?_
  refine zn_put dX10_init_87 fX10_42 lcX10 ltX10_21 rfl rfl rfl rfl (sp_zh (a := 0) (by decide) rfl) (by decide) (by decide) ?_
  refine zr_aload_n 0 dX10_init_90 rfl ?_
  refine zr_sipush dX10_init_91 (by decide) ?_
  refine zn_arr (n := 10) (kd := 1) (m := 198) dX10_init_94 (Or.inl ⟨rfl, rfl⟩) z_ai rfl (by decide) rfl (hp1 (by decide)) rfl ⟨by decide, by decide⟩ ?_
  refine zn_put dX10_init_96 fX10_45 lcX10 ltX10_22 rfl rfl rfl rfl (sp_zh (a := 0) (by decide) rfl) (by decide) (by decide) ?_
  refine zr_aload_n 0 dX10_init_99 rfl ?_
  refine zr_iconst dX10_init_100 ?_
  refine zr_puti dX10_init_101 fX10_48 lcX10 ltX10_26 rfl (sp_zh (a := 0) (by decide) rfl) ?_
  refine zr_aload_n 0 dX10_init_104 rfl ?_
  refine zr_sipush dX10_init_105 (by decide) ?_
  refine zn_arr (n := 11) (kd := 1) (m := 3960) dX10_init_108 (Or.inl ⟨rfl, rfl⟩) z_ai rfl (by decide) rfl (hp1 (by decide)) rfl ⟨by decide, by decide⟩ ?_
  refine zn_put dX10_init_110 fX10_51 lcX10 ltX10_27 rfl rfl rfl rfl (sp_zh (a := 0) (by decide) rfl) (by decide) (by decide) ?_
  refine zr_aload_n 0 dX10_init_113 rfl ?_
  refine zr_bipush dX10_init_114 (by decide) ?_
  refine zn_arr (n := 12) (kd := 1) (m := 96) dX10_init_116 (Or.inl ⟨rfl, rfl⟩) z_ai rfl (by decide) rfl (hp1 (by decide)) rfl ⟨by decide, by decide⟩ ?_
  refine zn_put dX10_init_118 fX10_54 lcX10 ltX10_30 rfl rfl rfl rfl (sp_zh (a := 0) (by decide) rfl) (by decide) (by decide) ?_
  refine zr_aload_n 0 dX10_init_121 rfl ?_
  refine zr_bipush dX10_init_122 (by decide) ?_
  refine zn_arr (n := 13) (kd := 1) (m := 96) dX10_init_124 (Or.inl ⟨rfl, rfl⟩) z_ai rfl (by decide) rfl (hp1 (by decide)) rfl ⟨by decide, by decide⟩ ?_
  refine zn_put dX10_init_126 fX10_57 lcX10 ltX10_31 rfl rfl rfl rfl (sp_zh (a := 0) (by decide) rfl) (by decide) (by decide) ?_
  refine zr_aload_n 0 dX10_init_129 rfl ?_
  refine zr_bipush dX10_init_130 (by decide) ?_
  refine zn_arr (n := 14) (kd := 1) (m := 96) dX10_init_132 (Or.inl ⟨rfl, rfl⟩) z_ai rfl (by decide) rfl (hp1 (by decide)) rfl ⟨by decide, by decide⟩ ?_
  refine zn_put dX10_init_134 fX10_60 lcX10 ltX10_32 rfl rfl rfl rfl (sp_zh (a := 0) (by decide) rfl) (by decide) (by decide) ?_
  refine zr_aload_n 0 dX10_init_137 rfl ?_
  refine zr_sipush dX10_init_138 (by decide) ?_
  refine zn_arr (n := 15) (kd := 1) (m := 594) dX10_init_141 (Or.inl ⟨rfl, rfl⟩) z_ai rfl (by decide) rfl (hp1 (by decide)) rfl ⟨by decide, by decide⟩ ?_
  refine zn_put dX10_init_143 fX10_63 lcX10 ltX10_34 rfl rfl rfl rfl (sp_zh (a := 0) (by decide) rfl) (by decide) (by decide) ?_
  refine zr_aload_n 0 dX10_init_146 rfl ?_
  refine zr_iconst dX10_init_147 ?_
  refine zn_arr (n := 16) (kd := 2) (m := 3) dX10_init_148 (Or.inr (Or.inl ⟨rfl, rfl⟩)) z_az rfl (by decide) rfl (hp1 (by decide)) rfl ⟨by decide, by decide⟩ ?_
  refine zn_put dX10_init_150 fX10_66 lcX10 ltX10_35 rfl rfl rfl rfl (sp_zh (a := 0) (by decide) rfl) (by decide) (by decide) ?_
  refine zr_aload_n 0 dX10_init_153 rfl ?_
  refine zr_bipush dX10_init_154 (by decide) ?_
  refine zn_arr (n := 17) (kd := 1) (m := 20) dX10_init_156 (Or.inl ⟨rfl, rfl⟩) z_ai rfl (by decide) rfl (hp1 (by decide)) rfl ⟨by decide, by decide⟩ ?_
  refine zn_put dX10_init_158 fX10_69 lcX10 ltX10_36 rfl rfl rfl rfl (sp_zh (a := 0) (by decide) rfl) (by decide) (by decide) ?_
  refine zr_aload_n 0 dX10_init_161 rfl ?_
  refine zr_bipush dX10_init_162 (by decide) ?_
  refine zn_arr (n := 18) (kd := 1) (m := 20) dX10_init_164 (Or.inl ⟨rfl, rfl⟩) z_ai rfl (by decide) rfl (hp1 (by decide)) rfl ⟨by decide, by decide⟩ ?_
  refine zn_put dX10_init_166 fX10_72 lcX10 ltX10_37 rfl rfl rfl rfl (sp_zh (a := 0) (by decide) rfl) (by decide) (by decide) ?_
  refine zr_aload_n 0 dX10_init_169 rfl ?_
  refine zr_bipush dX10_init_170 (by decide) ?_
  refine zn_arr (n := 19) (kd := 1) (m := 20) dX10_init_172 (Or.inl ⟨rfl, rfl⟩) z_ai rfl (by decide) rfl (hp1 (by decide)) rfl ⟨by decide, by decide⟩ ?_
  refine zn_put dX10_init_174 fX10_75 lcX10 ltX10_38 rfl rfl rfl rfl (sp_zh (a := 0) (by decide) rfl) (by decide) (by decide) ?_
  refine zr_aload_n 0 dX10_init_177 rfl ?_
  refine zr_bipush dX10_init_178 (by decide) ?_
  refine zn_arr (n := 20) (kd := 1) (m := 20) dX10_init_180 (Or.inl ⟨rfl, rfl⟩) z_ai rfl (by decide) rfl (hp1 (by decide)) rfl ⟨by decide, by decide⟩ ?_
  refine zn_put dX10_init_182 fX10_78 lcX10 ltX10_39 rfl rfl rfl rfl (sp_zh (a := 0) (by decide) rfl) (by decide) (by decide) ?_
  refine zr_aload_n 0 dX10_init_185 rfl ?_
  refine zr_bipush dX10_init_186 (by decide) ?_
  refine zn_arr (n := 21) (kd := 1) (m := 20) dX10_init_188 (Or.inl ⟨rfl, rfl⟩) z_ai rfl (by decide) rfl (hp1 (by decide)) rfl ⟨by decide, by decide⟩ ?_
  refine zn_put dX10_init_190 fX10_81 lcX10 ltX10_40 rfl rfl rfl rfl (sp_zh (a := 0) (by decide) rfl) (by decide) (by decide) ?_
  refine zr_aload_n 0 dX10_init_193 rfl ?_
  refine zr_bipush dX10_init_194 (by decide) ?_
  refine zn_arr (n := 22) (kd := 1) (m := 20) dX10_init_196 (Or.inl ⟨rfl, rfl⟩) z_ai rfl (by decide) rfl (hp1 (by decide)) rfl ⟨by decide, by decide⟩ ?_
  refine zn_put dX10_init_198 fX10_84 lcX10 ltX10_41 rfl rfl rfl rfl (sp_zh (a := 0) (by decide) rfl) (by decide) (by decide) ?_
  refine zr_aload_n 0 dX10_init_201 rfl ?_
  refine zr_bipush dX10_init_202 (by decide) ?_
  refine zn_arr (n := 23) (kd := 2) (m := 50) dX10_init_204 (Or.inr (Or.inl ⟨rfl, rfl⟩)) z_az rfl (by decide) rfl (hp1 (by decide)) rfl ⟨by decide, by decide⟩ ?_
  refine zn_put dX10_init_206 fX10_87 lcX10 ltX10_44 rfl rfl rfl rfl (sp_zh (a := 0) (by decide) rfl) (by decide) (by decide) ?_
  refine zr_aload_n 0 dX10_init_209 rfl ?_
  refine zr_sipush dX10_init_210 (by decide) ?_
  refine zn_arr (n := 24) (kd := 1) (m := 4800) dX10_init_213 (Or.inl ⟨rfl, rfl⟩) z_ai rfl (by decide) rfl (hp1 (by decide)) rfl ⟨by decide, by decide⟩ ?_
  refine zn_put dX10_init_215 fX10_90 lcX10 ltX10_45 rfl rfl rfl rfl (sp_zh (a := 0) (by decide) rfl) (by decide) (by decide) ?_
  refine zr_eqs (sp_m2 (by decide +kernel)) ?_
  refine zr_aload_n 0 dX10_init_218 rfl ?_
  refine zr_gen (fun A eA => ?_)
  have a1 : A 1 1 = 0 := by rw [eA]; simp [zu, zrw, hM]
  have a9 : A 1 9 = 0 := by rw [eA]; simp [zu, zrw, hM]
  have a10 : A 1 10 = -1 := by rw [eA]; simp [zu, zrw, hM]
  have a26 : A 1 26 = -1 := by rw [eA]; simp [zu, zrw, hM]
  have a43 : A 1 43 = 0 := by rw [eA]; simp [zu, zrw, hM]
  refine zr_callV (mm' := (0, 0)) (As := []) (rest := []) (a := 1) (ci := 10) dX10_init_219 kX10_init_93 rfl rfl rfl rfl (Nat.le_of_ble_eq_true rfl) ⟨by decide, by decide⟩ (c_begins (o := true)) (fun v σ1 B h => ?_)
  obtain ⟨rfl, rfl, bg, lb, fb⟩ := h
  refine zr_aload_n 0 dX10_init_222 rfl ?_
  have dr : DR 8 4 M0 B := by
    have := dq_dr0 (bg_dq hF.1 bg) hF.1.dJ hF.2.2.1 (N := B) (fun _ _ => rfl)
    rwa [hF.1.1.1, hF.1.1.2.1] at this
  refine zr_callV (mm' := (0, 0)) (As := []) (rest := []) (a := 1) (ci := 10) dX10_init_223 kX10_init_96 rfl rfl rfl rfl (Nat.le_of_ble_eq_true rfl) ⟨by decide, by decide⟩ (c_takesOver (o := true) dr (by rw [fb 26 (by decide) (by decide)]; exact a26)) (fun v σ1 N h => ?_)
  obtain ⟨rfl, rfl, tk⟩ := h
  exact zr_return dX10_init_226 rfl rfl ⟨rfl, rfl, B, tk, by rw [fb 1 (by decide) (by decide)]; exact a1, by rw [fb 9 (by decide) (by decide)]; exact a9, by rw [fb 10 (by decide) (by decide)]; exact a10, by rw [fb 26 (by decide) (by decide)]; exact a26, by rw [fb 43 (by decide) (by decide)]; exact a43⟩
/-- the joint start -/
theorem j_start {M0 B N1 N2 : zM} (hF : mkF M0) (ha : adP 8 4 M0 N1 38) (hb : tkP 8 4 M0 B N2) (b1 : B 1 1 = 0) (b9 : B 1 9 = 0) (b10 : B 1 10 = -1) (b26 : B 1 26 = -1) (b43 : B 1 43 = 0) : Jt 0 8 4 N1 N2 := by
  obtain ⟨cl, f15, f2, f7, f37, f135⟩ := hF
  have dk : dOK M0 8 4 := by
    have := cl.dJ.ok
    rwa [cl.1.1, cl.1.2.1] at this
  have nb := ha.2.2.2.2.2.2.2.2.2.2.2.2.2.2.2.2.2
  have tb := hb.2.2.2.2.2.2.2.2.2.2.2.2
  have e : ∀ i : Int, i ≠ 24 → i ≠ 25 → i ≠ 28 → i ≠ 29 → i ≠ 42 → N2 1 i = B 1 i := tb
  have e1 : N2 1 1 = 0 := by rw [e 1 (by decide) (by decide) (by decide) (by decide) (by decide)]; exact b1
  have e43 : N2 1 43 = 0 := by rw [e 43 (by decide) (by decide) (by decide) (by decide) (by decide)]; exact b43
  refine adopt_J (p := fun i => 38 + 4 * i) dk (by decide) ha hb ⟨fun i hi => ⟨f37 i hi, ?_⟩, fun i j _ _ h => by have h' : 38 + 4 * i = 38 + 4 * j := h; omega⟩ rfl f135 ⟨?_, by rw [e1]; decide, fun i i0 i1 => by rw [e1] at i1; omega⟩ ⟨?_, ?_, ?_, ?_, ?_⟩
  · have : ∀ i, i < 21 → 38 + 4 * i ∈ zhs := by decide
    exact this i hi
  · rw [nb 2 (by decide), f2, e1]
  · rw [nb 1 (by decide), f15, e43]
  · rw [e43]; decide
  · rw [nb 7 (by decide), f7.1, e 9 (by decide) (by decide) (by decide) (by decide) (by decide), b9]
  · rw [nb 7 (by decide), f7.2, e 10 (by decide) (by decide) (by decide) (by decide) (by decide), b10]
  · rw [e 26 (by decide) (by decide) (by decide) (by decide) (by decide), b26]
