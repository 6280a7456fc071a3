/-! the text of the words: a String of the class's constants -/
def ztI : List Int := [115, 105, 122, 101, 32, 115, 97, 110, 100, 32, 104, 101, 97, 112, 32, 103, 114, 97, 115, 115, 32, 119, 105, 110, 100, 32, 104, 111, 112, 32, 115, 104, 97, 100, 111, 119, 32, 115, 108, 111, 112, 101, 32, 115, 116, 105, 99, 107, 32, 100, 114, 97, 119, 32, 101, 97, 115, 116, 32, 115, 111, 117, 116, 104, 32, 119, 101, 115, 116, 32, 110, 111, 114, 116, 104, 32, 98, 121, 32]
theorem ztI_b : ∀ n, n < 79 → ztb.getD n 0 = Int32.ofInt (ztI.getD n 0) ∧ 32 ≤ ztI.getD n 0 ∧ ztI.getD n 0 ≤ 122 := by decide +kernel
section ZS
variable {g : zG} {d d' : zD} {mm mm' kw : Nat × Nat} {σ0 σ : zS} {Q Q' : zP} {pc n idx : Nat} {l : List (Nat × Value)} {st As rest : List Value} {M : zM}
theorem zr_lds (hc : d.1.cls = "SandMarch$Tape") (hd : decode d.2.1 pc = .ok (.ldc 56, 2)) (k : zR g d mm σ0 Q (pc + 2) l (zTb g 2 :: st) kw σ M) : zR g d mm σ0 Q pc l st kw σ M := by
  intro la p e s m args below meth c B H locs ls hA hS hH hl
  have kk := k la p e s m args below meth c B H locs ls hA hS hH hl
  obtain ⟨hx, hb, -, -, -, hown, hts, -, -, hX, -⟩ := B
  exact va_ldcS hx hb (own := "SandMarch$Tape") (by rw [← hc]; exact hown) hX.2.2.2.2.2.2.1 hd kk
theorem zr_aloadT {j : Fin 4} {r : Nat} (q : Nat) (hd : decode d.2.1 pc = .ok (.aload_n j, 1)) (hl : l[q]? = some ((j : Nat), zTb g r)) (k : zR g d mm σ0 Q (pc + 1) l (zTb g r :: st) kw σ M) : zR g d mm σ0 Q pc l st kw σ M :=
  zr_st (fun B hv k => lv_aload_n B.1 B.2.1 hd rfl (lv_at hv q hl) k) k
theorem zr_strv (hd : decode d.2.1 pc = .ok (.getfield idx, 3)) (hL : Cond.fieldLink d.1.cls idx "java/lang/String" "value" "[B" ∈ zt) (k : zR g d mm σ0 Q (pc + 3) l (zTb g 3 :: st) kw σ M) : zR g d mm σ0 Q pc l (zTb g 2 :: st) kw σ M := by
  intro la p e s m args below meth c B H locs ls hA hS hH hl
  have kk := k la p e s m args below meth c B H locs ls hA hS hH hl
  obtain ⟨hx, hb, -, -, -, hown, hts, -, -, hX, -⟩ := B
  have hE := hX.2.2.2.2.2.2.2.1.narrow (B := zAg g σ0) (fun q h => h.1)
  exact vk_getf hx hb (hE.1 0 (by decide)).2.2.1 hS hown (hts _ hL) (fun _ h => h) hd kk
theorem zr_strc (hd : decode d.2.1 pc = .ok (.getfield idx, 3)) (hL : Cond.fieldLink d.1.cls idx "java/lang/String" "coder" "B" ∈ zt) (k : zR g d mm σ0 Q (pc + 3) l (zI 0 :: st) kw σ M) : zR g d mm σ0 Q pc l (zTb g 2 :: st) kw σ M := by
  intro la p e s m args below meth c B H locs ls hA hS hH hl
  have kk := k la p e s m args below meth c B H locs ls hA hS hH hl
  obtain ⟨hx, hb, -, -, -, hown, hts, -, -, hX, -⟩ := B
  have hE := hX.2.2.2.2.2.2.2.1.narrow (B := zAg g σ0) (fun q h => h.1)
  exact vk_getf hx hb (hE.1 0 (by decide)).2.1 hS hown (hts _ hL) (fun _ h => h) hd kk
theorem zr_compact (hd : decode d.2.1 pc = .ok (.getstatic idx, 3)) (hL : Cond.fieldLink d.1.cls idx "java/lang/String" "COMPACT_STRINGS" "Z" ∈ zt) (k : zR g d mm σ0 Q (pc + 3) l (zI 1 :: st) kw σ M) : zR g d mm σ0 Q pc l st kw σ M := by
  intro la p e s m args below meth c B H locs ls hA hS hH hl
  have kk := k la p e s m args below meth c B H locs ls hA hS hH hl
  obtain ⟨hx, hb, -, -, -, hown, hts, -, -, hX, -⟩ := B
  exact va_gets hx hb (hX.2.2.2.2.1.narrow (fun q h => h.1)) hS hown (hts _ hL) (fun _ h => h) hd kk
theorem zr_sioobe (hd : decode d.2.1 pc = .ok (.getstatic idx, 3)) (hL : Cond.fieldLink d.1.cls idx "jdk/internal/util/Preconditions" "SIOOBE_FORMATTER" "Ljava/util/function/BiFunction;" ∈ zt) (k : ∀ v : Value, (v = .null ∨ ∃ t : Nat, v = .ref t) → zR g d mm σ0 Q (pc + 3) l (v :: st) kw σ M) : zR g d mm σ0 Q pc l st kw σ M := by
  intro la p e s m args below meth c B H locs ls hA hS hH hl
  have kn := k .null (Or.inl rfl) la p e s m args below meth c B H locs ls hA hS hH hl
  have kr := fun t : Nat => k (.ref t) (Or.inr ⟨t, rfl⟩) la p e s m args below meth c B H locs ls hA hS hH hl
  obtain ⟨hx, hb, -, -, -, hown, hts, -, -, hX, -⟩ := B
  rcases hX.2.2.2.2.2.1.narrow (B := zAg g σ0) (fun q h => h.1) with h | ⟨t, h⟩
  · exact va_gets hx hb h hS hown (hts _ hL) (fun _ h => h) hd kn
  · exact va_gets hx hb h hS hown (hts _ hL) (fun _ h => h) hd (kr t)
theorem zr_tlen3 (hd : decode d.2.1 pc = .ok (.arraylength, 1)) (k : zR g d mm σ0 Q (pc + 1) l (zI 79 :: st) kw σ M) : zR g d mm σ0 Q pc l (zTb g 3 :: st) kw σ M := by
  intro la p e s m args below meth c B H locs ls hA hS hH hl
  have kk := k la p e s m args below meth c B H locs ls hA hS hH hl
  obtain ⟨hx, hb, -, -, -, hown, hts, -, -, hX, -⟩ := B
  have hE := hX.2.2.2.2.2.2.2.1.narrow (B := zAg g σ0) (fun q h => h.1)
  exact va_tlen hx hb (hE.1 0 (by decide)).2.2.2 hS (v := Int32.ofInt 79) (by decide) hd kk
theorem zr_tb3 {x : Int} (hd : decode d.2.1 pc = .ok (.baload, 1)) (hx : 0 ≤ x ∧ x < 79) (k : zR g d mm σ0 Q (pc + 1) l (zI (ztI.getD x.toNat 0) :: st) kw σ M) : zR g d mm σ0 Q pc l (zI x :: zTb g 3 :: st) kw σ M := by
  intro la p e s m args below meth c B H locs ls hA hS hH hl
  have kk := k la p e s m args below meth c B H locs ls hA hS hH hl
  obtain ⟨hxx, hb, -, -, -, hown, hts, -, -, hX, -⟩ := B
  have hE := hX.2.2.2.2.2.2.2.1.narrow (B := zAg g σ0) (fun q h => h.1)
  have hin := zi_in (n := 79) hx.1 hx.2 (by decide)
  have he : (Int32.ofInt x).toNatClampNeg = x.toNat := zi_nn ⟨by omega, by omega⟩ hx.1
  exact va_tb hxx hb (hE.1 0 (by decide)).2.2.2 hS hin (v := zI (ztI.getD x.toNat 0)) (by rw [he]; show Value.int (ztb.getD x.toNat 0) = _; rw [(ztI_b x.toNat (by omega)).1]; rfl) hd kk
theorem zi_i2c {x : Int} (hx : 0 ≤ x ∧ x ≤ 65535) : ((Int32.ofInt x).toUInt32 % 65536).toInt32 = Int32.ofInt x := by
  obtain ⟨a, rfl⟩ := znn hx.1
  apply Int32.toBitVec_inj.mp
  apply BitVec.eq_of_toNat_eq
  show ((Int32.ofInt (a : Int)).toUInt32 % 65536).toNat = (BitVec.ofInt 32 (a : Int)).toNat
  have e : (Int32.ofInt (a : Int)).toUInt32.toNat = a := by
    show (BitVec.ofInt 32 (a : Int)).toNat = a
    rw [BitVec.toNat_ofInt]; omega
  rw [UInt32.toNat_mod, e, BitVec.toNat_ofInt, show (65536 : UInt32).toNat = 65536 from rfl]
  omega
theorem zr_i2c {x : Int} (hd : decode d.2.1 pc = .ok (.i2c, 1)) (hx : 0 ≤ x ∧ x ≤ 65535) (k : zR g d mm σ0 Q (pc + 1) l (zI x :: st) kw σ M) : zR g d mm σ0 Q pc l (zI x :: st) kw σ M :=
  zr_st (fun B hl k => lv_i2c B.1 B.2.1 hd (zi_i2c hx) k) k
theorem zr_nreturn {x : Int} {ty : FieldType} (hd : decode d.2.1 pc = .ok (.ireturn, 1)) (hr : d.2.2.2.1 = some ty) (hn : narrow ty (zI x) = zI x) (hk : kw = mm) (h : Q (some (zI x)) σ M) : zR g d mm σ0 Q pc l [zI x] kw σ M := by
  intro la p e s m args below meth c B H locs ls hA hS hH hl
  subst hk
  exact W.zret B.1 B.2.1 (B.2.2.2.1.trans hr) hn (fun t ht hW => ⟨⟨_, σ, M, rfl, h, by rw [ht]; exact hH, hA⟩, hS.F ht⟩) hS.2.2 hd B.2.2.2.2.1
theorem zr_callVs (hd : decode d.2.1 pc = .ok (.invokevirtual idx, 3)) (hL : zLv d d' idx n) (hci : d'.1.cls = "java/lang/String") (hst : st = As.reverse ++ zTb g 2 :: rest) (hn : As.length = n) (hw : (rest.map fun v => v.category).sum ≤ 8) (hm : kw.1 + mm'.1 ≤ mm.1 ∧ kw.2 + mm'.2 ≤ mm.2)
    (hc : zC g d' mm' (zTb g 2 :: As) σ M Q') (k : ∀ v σ' M', Q' v σ' M' → zR g d mm σ0 Q (pc + 3) l (v.toList ++ rest) (kw.1 + mm'.1, kw.2 + mm'.2) σ' M') : zR g d mm σ0 Q pc l st kw σ M := by
  intro la p e s m args below meth c B H locs ls hA hS hH hl
  have B' := B
  obtain ⟨hx, hb, hml, -, -, hown, hts, -, hK, hX, -⟩ := B'
  obtain ⟨⟨w1, w2, hdd, hf1, hf2⟩, w3, w4, w5⟩ := hL
  have hE := hX.2.2.2.2.2.2.2.1.narrow (B := zAg g σ0) (fun q h => h.1)
  obtain ⟨cell, q1, q2, q3⟩ := vk_recv hE (i := 0) (by decide) hS
  have hG : GoodIn zt (wsV d.1.cls idx d'.1.cls d'.1 (zw d')) := fun w hw => by
    rcases List.mem_append.mp hw with h | h
    · simp only [List.mem_cons, List.not_mem_nil, or_false] at h
      rcases h with rfl | rfl | rfl | rfl
      · exact ⟨w3, zgoodOf w3⟩
      · exact ⟨w4, zgoodOf w4⟩
      · exact ⟨w5, zgoodOf w5⟩
      · exact ⟨w1, zgoodOf w1⟩
    · exact zgoodIn w2 w h
  exact zback (mm' := mm') (as := (Value.ref (g.2.2.2 2) :: As).toArray) B hA hS hl (va_runV (As := As) (rest := rest) (C := d'.1.cls) ⟨hx, hb, hml, hown, hts⟩ (hc la) (cwV n hts hG rfl rfl rfl ⟨rfl, hdd⟩ ⟨hf1, hf2⟩) ⟨zblind, ⟨cell, q1, q2, by rw [hci]; exact q3⟩, fun U hU hW => ⟨rfl, zpre B hS hH hU hW⟩⟩ rfl hn hl.1 hst (lv_room hw) hd hm) k
end ZS
section ZSt
variable {g : zG} {d d' : zD} {σ : zS} {Q : zP} {pc n idx : Nat} {l : List (Nat × Value)} {st As rest : List Value} {M : zM}
theorem zt_callVsi {q : Int → zM → Prop} (hd : decode d.2.1 pc = .ok (.invokevirtual idx, 3)) (hL : zLv d d' idx n) (hci : d'.1.cls = "java/lang/String") (hst : st = As.reverse ++ zTb g 2 :: rest) (hn : As.length = n) (hw : (rest.map fun v => v.category).sum ≤ 8) (hc : zKi g σ d' (zTb g 2 :: As) M q) (k : ∀ r M', q r M' → zT g σ d Q (pc + 3) l (zI r :: rest) M') : zT g σ d Q pc l st M :=
  zr_callVs (mm' := (0, 0)) hd hL hci hst hn hw ⟨Nat.le_refl 0, Nat.le_refl 0⟩ hc (fun v σ' M' h => by obtain ⟨rfl, r, rfl, h⟩ := h; exact k r M' h)
theorem zt_nret {q : Int → zM → Prop} {x : Int} {ty : FieldType} (hd : decode d.2.1 pc = .ok (.ireturn, 1)) (hr : d.2.2.2.1 = some ty) (hn : narrow ty (zI x) = zI x) (h : q x M) : zT g σ d (zQi σ q) pc l [zI x] M := zr_nreturn hd hr hn rfl ⟨rfl, x, rfl, h⟩
end ZSt
theorem z_nar {x : Int} (hx : 0 ≤ x ∧ x ≤ 127) : narrow .char (zI x) = zI x := by
  have key : ∀ n : Nat, n < 128 → narrow .char (zI (n : Int)) = zI (n : Int) := by decide +kernel
  obtain ⟨n, rfl⟩ := znn hx.1
  exact key n (by omega)
def mJ0_checkIndex_df160 : zD := (yJ0_checkIndex_df160, cJ0_checkIndex_df160, 2, none, 1, 22)
def mJ1_charAt_3b067 : zD := (yJ1_charAt_3b067, cJ1_charAt_3b067, 2, (some .char), 2, 43)
def mJ0_isLatin1_aae02 : zD := (yJ0_isLatin1_aae02, cJ0_isLatin1_aae02, 1, (some .boolean), 0, 0)
def mJ0_coder_7d493 : zD := (yJ0_coder_7d493, cJ0_coder_7d493, 1, (some .byte), 0, 0)
def mJ0_length_8abf5 : zD := (yJ0_length_8abf5, cJ0_length_8abf5, 1, (some .int), 1, 20)
def mJ0_charAt_5068e : zD := (yJ0_charAt_5068e, cJ0_charAt_5068e, 2, (some .char), 4, 85)
theorem bJ0_checkIndex_df160 : Cond.initialized (mJ0_checkIndex_df160).1.cls ∈ zt ∧ Cond.code (mJ0_checkIndex_df160).1 (mJ0_checkIndex_df160).2.1 (mJ0_checkIndex_df160).2.2.1 (mJ0_checkIndex_df160).2.2.2.1 ∈ zt ∧ ((mJ0_checkIndex_df160).1.cls ≠ "java/lang/invoke/MethodHandle" ∧ (mJ0_checkIndex_df160).1.cls ≠ "java/lang/invoke/VarHandle" ∧ (parseMethodDescriptor (mJ0_checkIndex_df160).1.desc).map (fun d => d.parameters.length) = some 2) := ⟨zc1 14 (by decide +kernel) rfl, zc3 53 (by decide +kernel) rfl, by decide +kernel⟩
theorem bJ1_charAt_3b067 : Cond.initialized (mJ1_charAt_3b067).1.cls ∈ zt ∧ Cond.code (mJ1_charAt_3b067).1 (mJ1_charAt_3b067).2.1 (mJ1_charAt_3b067).2.2.1 (mJ1_charAt_3b067).2.2.2.1 ∈ zt ∧ ((mJ1_charAt_3b067).1.cls ≠ "java/lang/invoke/MethodHandle" ∧ (mJ1_charAt_3b067).1.cls ≠ "java/lang/invoke/VarHandle" ∧ (parseMethodDescriptor (mJ1_charAt_3b067).1.desc).map (fun d => d.parameters.length) = some 2) := ⟨zc1 15 (by decide +kernel) rfl, zc3 50 (by decide +kernel) rfl, by decide +kernel⟩
theorem bJ0_isLatin1_aae02 : Cond.initialized (mJ0_isLatin1_aae02).1.cls ∈ zt ∧ Cond.code (mJ0_isLatin1_aae02).1 (mJ0_isLatin1_aae02).2.1 (mJ0_isLatin1_aae02).2.2.1 (mJ0_isLatin1_aae02).2.2.2.1 ∈ zt ∧ ((mJ0_isLatin1_aae02).1.cls ≠ "java/lang/invoke/MethodHandle" ∧ (mJ0_isLatin1_aae02).1.cls ≠ "java/lang/invoke/VarHandle" ∧ (parseMethodDescriptor (mJ0_isLatin1_aae02).1.desc).map (fun d => d.parameters.length) = some 0) := ⟨zc1 14 (by decide +kernel) rfl, zc3 47 (by decide +kernel) rfl, by decide +kernel⟩
theorem bJ0_coder_7d493 : Cond.initialized (mJ0_coder_7d493).1.cls ∈ zt ∧ Cond.code (mJ0_coder_7d493).1 (mJ0_coder_7d493).2.1 (mJ0_coder_7d493).2.2.1 (mJ0_coder_7d493).2.2.2.1 ∈ zt ∧ ((mJ0_coder_7d493).1.cls ≠ "java/lang/invoke/MethodHandle" ∧ (mJ0_coder_7d493).1.cls ≠ "java/lang/invoke/VarHandle" ∧ (parseMethodDescriptor (mJ0_coder_7d493).1.desc).map (fun d => d.parameters.length) = some 0) := ⟨zc1 14 (by decide +kernel) rfl, zc3 37 (by decide +kernel) rfl, by decide +kernel⟩
theorem bJ0_length_8abf5 : Cond.initialized (mJ0_length_8abf5).1.cls ∈ zt ∧ Cond.code (mJ0_length_8abf5).1 (mJ0_length_8abf5).2.1 (mJ0_length_8abf5).2.2.1 (mJ0_length_8abf5).2.2.2.1 ∈ zt ∧ ((mJ0_length_8abf5).1.cls ≠ "java/lang/invoke/MethodHandle" ∧ (mJ0_length_8abf5).1.cls ≠ "java/lang/invoke/VarHandle" ∧ (parseMethodDescriptor (mJ0_length_8abf5).1.desc).map (fun d => d.parameters.length) = some 0) := ⟨zc1 14 (by decide +kernel) rfl, zc3 33 (by decide +kernel) rfl, by decide +kernel⟩
theorem bJ0_charAt_5068e : Cond.initialized (mJ0_charAt_5068e).1.cls ∈ zt ∧ Cond.code (mJ0_charAt_5068e).1 (mJ0_charAt_5068e).2.1 (mJ0_charAt_5068e).2.2.1 (mJ0_charAt_5068e).2.2.2.1 ∈ zt ∧ ((mJ0_charAt_5068e).1.cls ≠ "java/lang/invoke/MethodHandle" ∧ (mJ0_charAt_5068e).1.cls ≠ "java/lang/invoke/VarHandle" ∧ (parseMethodDescriptor (mJ0_charAt_5068e).1.desc).map (fun d => d.parameters.length) = some 1) := ⟨zc1 14 (by decide +kernel) rfl, zc3 43 (by decide +kernel) rfl, by decide +kernel⟩
theorem dJ3_checkIndex_8e157_0 : decode cJ3_checkIndex_8e157 0 = .ok (.iload_n 0, 1) := by decide +kernel
theorem dJ3_checkIndex_8e157_1 : decode cJ3_checkIndex_8e157 1 = .ok (.ifCond .lt 8, 3) := by decide +kernel
theorem dJ3_checkIndex_8e157_4 : decode cJ3_checkIndex_8e157 4 = .ok (.iload_n 0, 1) := by decide +kernel
theorem dJ3_checkIndex_8e157_5 : decode cJ3_checkIndex_8e157 5 = .ok (.iload_n 1, 1) := by decide +kernel
theorem dJ3_checkIndex_8e157_6 : decode cJ3_checkIndex_8e157 6 = .ok (.if_icmp .lt 10, 3) := by decide +kernel
theorem dJ3_checkIndex_8e157_9 : decode cJ3_checkIndex_8e157 9 = .ok (.aload_n 2, 1) := by decide +kernel
theorem dJ3_checkIndex_8e157_10 : decode cJ3_checkIndex_8e157 10 = .ok (.iload_n 0, 1) := by decide +kernel
theorem dJ3_checkIndex_8e157_11 : decode cJ3_checkIndex_8e157 11 = .ok (.iload_n 1, 1) := by decide +kernel
theorem dJ3_checkIndex_8e157_12 : decode cJ3_checkIndex_8e157 12 = .ok (.invokestatic 95, 3) := by decide +kernel
theorem dJ3_checkIndex_8e157_15 : decode cJ3_checkIndex_8e157 15 = .ok (.athrow, 1) := by decide +kernel
theorem dJ3_checkIndex_8e157_16 : decode cJ3_checkIndex_8e157 16 = .ok (.iload_n 0, 1) := by decide +kernel
theorem dJ3_checkIndex_8e157_17 : decode cJ3_checkIndex_8e157 17 = .ok (.ireturn, 1) := by decide +kernel
theorem dJ0_checkIndex_df160_0 : decode cJ0_checkIndex_df160 0 = .ok (.iload_n 0, 1) := by decide +kernel
theorem dJ0_checkIndex_df160_1 : decode cJ0_checkIndex_df160 1 = .ok (.iload_n 1, 1) := by decide +kernel
theorem dJ0_checkIndex_df160_2 : decode cJ0_checkIndex_df160 2 = .ok (.getstatic 1053, 3) := by decide +kernel
theorem dJ0_checkIndex_df160_5 : decode cJ0_checkIndex_df160 5 = .ok (.invokestatic 1059, 3) := by decide +kernel
theorem dJ0_checkIndex_df160_8 : decode cJ0_checkIndex_df160 8 = .ok (.pop, 1) := by decide +kernel
theorem dJ0_checkIndex_df160_9 : decode cJ0_checkIndex_df160 9 = .ok (.return_, 1) := by decide +kernel
theorem dJ1_charAt_3b067_0 : decode cJ1_charAt_3b067 0 = .ok (.iload_n 1, 1) := by decide +kernel
theorem dJ1_charAt_3b067_1 : decode cJ1_charAt_3b067 1 = .ok (.aload_n 0, 1) := by decide +kernel
theorem dJ1_charAt_3b067_2 : decode cJ1_charAt_3b067 2 = .ok (.arraylength, 1) := by decide +kernel
theorem dJ1_charAt_3b067_3 : decode cJ1_charAt_3b067 3 = .ok (.invokestatic 9, 3) := by decide +kernel
theorem dJ1_charAt_3b067_6 : decode cJ1_charAt_3b067 6 = .ok (.aload_n 0, 1) := by decide +kernel
theorem dJ1_charAt_3b067_7 : decode cJ1_charAt_3b067 7 = .ok (.iload_n 1, 1) := by decide +kernel
theorem dJ1_charAt_3b067_8 : decode cJ1_charAt_3b067 8 = .ok (.baload, 1) := by decide +kernel
theorem dJ1_charAt_3b067_9 : decode cJ1_charAt_3b067 9 = .ok (.sipush 255, 3) := by decide +kernel
theorem dJ1_charAt_3b067_12 : decode cJ1_charAt_3b067 12 = .ok (.iand, 1) := by decide +kernel
theorem dJ1_charAt_3b067_13 : decode cJ1_charAt_3b067 13 = .ok (.i2c, 1) := by decide +kernel
theorem dJ1_charAt_3b067_14 : decode cJ1_charAt_3b067 14 = .ok (.ireturn, 1) := by decide +kernel
theorem dJ0_isLatin1_aae02_0 : decode cJ0_isLatin1_aae02 0 = .ok (.getstatic 38, 3) := by decide +kernel
theorem dJ0_isLatin1_aae02_3 : decode cJ0_isLatin1_aae02 3 = .ok (.ifCond .eq 14, 3) := by decide +kernel
theorem dJ0_isLatin1_aae02_6 : decode cJ0_isLatin1_aae02 6 = .ok (.aload_n 0, 1) := by decide +kernel
theorem dJ0_isLatin1_aae02_7 : decode cJ0_isLatin1_aae02 7 = .ok (.getfield 15, 3) := by decide +kernel
theorem dJ0_isLatin1_aae02_10 : decode cJ0_isLatin1_aae02 10 = .ok (.ifCond .ne 7, 3) := by decide +kernel
theorem dJ0_isLatin1_aae02_13 : decode cJ0_isLatin1_aae02 13 = .ok (.iconst 1, 1) := by decide +kernel
theorem dJ0_isLatin1_aae02_14 : decode cJ0_isLatin1_aae02 14 = .ok (.goto 4, 3) := by decide +kernel
theorem dJ0_isLatin1_aae02_17 : decode cJ0_isLatin1_aae02 17 = .ok (.iconst 0, 1) := by decide +kernel
theorem dJ0_isLatin1_aae02_18 : decode cJ0_isLatin1_aae02 18 = .ok (.ireturn, 1) := by decide +kernel
theorem dJ0_coder_7d493_0 : decode cJ0_coder_7d493 0 = .ok (.getstatic 38, 3) := by decide +kernel
theorem dJ0_coder_7d493_3 : decode cJ0_coder_7d493 3 = .ok (.ifCond .eq 10, 3) := by decide +kernel
theorem dJ0_coder_7d493_6 : decode cJ0_coder_7d493 6 = .ok (.aload_n 0, 1) := by decide +kernel
theorem dJ0_coder_7d493_7 : decode cJ0_coder_7d493 7 = .ok (.getfield 15, 3) := by decide +kernel
theorem dJ0_coder_7d493_10 : decode cJ0_coder_7d493 10 = .ok (.goto 4, 3) := by decide +kernel
theorem dJ0_coder_7d493_13 : decode cJ0_coder_7d493 13 = .ok (.iconst 1, 1) := by decide +kernel
theorem dJ0_coder_7d493_14 : decode cJ0_coder_7d493 14 = .ok (.ireturn, 1) := by decide +kernel
theorem dJ0_length_8abf5_0 : decode cJ0_length_8abf5 0 = .ok (.aload_n 0, 1) := by decide +kernel
theorem dJ0_length_8abf5_1 : decode cJ0_length_8abf5 1 = .ok (.getfield 9, 3) := by decide +kernel
theorem dJ0_length_8abf5_4 : decode cJ0_length_8abf5 4 = .ok (.arraylength, 1) := by decide +kernel
theorem dJ0_length_8abf5_5 : decode cJ0_length_8abf5 5 = .ok (.aload_n 0, 1) := by decide +kernel
theorem dJ0_length_8abf5_6 : decode cJ0_length_8abf5 6 = .ok (.invokevirtual 335, 3) := by decide +kernel
theorem dJ0_length_8abf5_9 : decode cJ0_length_8abf5 9 = .ok (.ishr, 1) := by decide +kernel
theorem dJ0_length_8abf5_10 : decode cJ0_length_8abf5 10 = .ok (.ireturn, 1) := by decide +kernel
theorem dJ0_charAt_5068e_0 : decode cJ0_charAt_5068e 0 = .ok (.aload_n 0, 1) := by decide +kernel
theorem dJ0_charAt_5068e_1 : decode cJ0_charAt_5068e 1 = .ok (.invokevirtual 492, 3) := by decide +kernel
theorem dJ0_charAt_5068e_4 : decode cJ0_charAt_5068e 4 = .ok (.ifCond .eq 12, 3) := by decide +kernel
theorem dJ0_charAt_5068e_7 : decode cJ0_charAt_5068e 7 = .ok (.aload_n 0, 1) := by decide +kernel
theorem dJ0_charAt_5068e_8 : decode cJ0_charAt_5068e 8 = .ok (.getfield 9, 3) := by decide +kernel
theorem dJ0_charAt_5068e_11 : decode cJ0_charAt_5068e 11 = .ok (.iload_n 1, 1) := by decide +kernel
theorem dJ0_charAt_5068e_12 : decode cJ0_charAt_5068e 12 = .ok (.invokestatic 495, 3) := by decide +kernel
theorem dJ0_charAt_5068e_15 : decode cJ0_charAt_5068e 15 = .ok (.ireturn, 1) := by decide +kernel
theorem dJ0_charAt_5068e_16 : decode cJ0_charAt_5068e 16 = .ok (.aload_n 0, 1) := by decide +kernel
theorem dJ0_charAt_5068e_17 : decode cJ0_charAt_5068e 17 = .ok (.getfield 9, 3) := by decide +kernel
theorem dJ0_charAt_5068e_20 : decode cJ0_charAt_5068e 20 = .ok (.iload_n 1, 1) := by decide +kernel
theorem dJ0_charAt_5068e_21 : decode cJ0_charAt_5068e 21 = .ok (.invokestatic 498, 3) := by decide +kernel
theorem dJ0_charAt_5068e_24 : decode cJ0_charAt_5068e 24 = .ok (.ireturn, 1) := by decide +kernel
theorem kJ0_length_335 : zLv mJ0_length_8abf5 mJ0_coder_7d493 335 0 := ⟨⟨bJ0_coder_7d493.1, bJ0_coder_7d493.2.1, bJ0_coder_7d493.2.2, by decide, by decide⟩, zc3 34 (by decide +kernel) rfl, zc3 35 (by decide +kernel) rfl, zc3 36 (by decide +kernel) rfl⟩
theorem kJ0_charAt_492 : zLv mJ0_charAt_5068e mJ0_isLatin1_aae02 492 0 := ⟨⟨bJ0_isLatin1_aae02.1, bJ0_isLatin1_aae02.2.1, bJ0_isLatin1_aae02.2.2, by decide, by decide⟩, zc3 44 (by decide +kernel) rfl, zc3 45 (by decide +kernel) rfl, zc3 46 (by decide +kernel) rfl⟩
theorem kJ0_charAt_495 : zLs mJ0_charAt_5068e mJ1_charAt_3b067 495 2 := ⟨⟨bJ1_charAt_3b067.1, bJ1_charAt_3b067.2.1, bJ1_charAt_3b067.2.2, by decide, by decide⟩, zc3 48 (by decide +kernel) rfl, zc3 49 (by decide +kernel) rfl⟩
theorem kJ1_charAt_9 : zLs mJ1_charAt_3b067 mJ0_checkIndex_df160 9 2 := ⟨⟨bJ0_checkIndex_df160.1, bJ0_checkIndex_df160.2.1, bJ0_checkIndex_df160.2.2, by decide, by decide⟩, zc3 51 (by decide +kernel) rfl, zc3 52 (by decide +kernel) rfl⟩
theorem kJ0_checkIndex_1059 : zLs mJ0_checkIndex_df160 mJ3_checkIndex_8e157 1059 3 := ⟨⟨bJ3_checkIndex_8e157.1, bJ3_checkIndex_8e157.2.1, bJ3_checkIndex_8e157.2.2, by decide, by decide⟩, zc3 56 (by decide +kernel) rfl, zc3 57 (by decide +kernel) rfl⟩
theorem kX8_wordNumber_58 : zLv mX8_wordNumber mJ0_length_8abf5 58 0 := ⟨⟨bJ0_length_8abf5.1, bJ0_length_8abf5.2.1, bJ0_length_8abf5.2.2, by decide, by decide⟩, zc3 30 (by decide +kernel) rfl, zc3 31 (by decide +kernel) rfl, zc3 32 (by decide +kernel) rfl⟩
theorem kX8_wordNumber_63 : zLv mX8_wordNumber mJ0_charAt_5068e 63 1 := ⟨⟨bJ0_charAt_5068e.1, bJ0_charAt_5068e.2.1, bJ0_charAt_5068e.2.2, by decide, by decide⟩, zc3 40 (by decide +kernel) rfl, zc3 41 (by decide +kernel) rfl, zc3 42 (by decide +kernel) rfl⟩
section ZSc
variable {g : zG} {o : Bool} {M : zM} {x : Int}
theorem c_coder : zKi g (z1 o) mJ0_coder_7d493 [zTb g 2] M (fun r M' => r = 0 ∧ M' = M) := by
  refine zki_of rfl (Nat.le_of_ble_eq_true rfl) ?_
  refine zr_compact dJ0_coder_7d493_0 (zc3 38 (by decide +kernel) rfl) ?_
  refine zr_if_eq (tgt := 13) dJ0_coder_7d493_3 (by decide) ⟨by decide, by decide⟩ (fun h => absurd h (by decide)) (fun h => ?_)
  refine zr_aloadT 0 dJ0_coder_7d493_6 rfl ?_
  refine zr_strc dJ0_coder_7d493_7 (zc8 26 (by decide +kernel) rfl) ?_
  refine zr_goto (tgt := 14) dJ0_coder_7d493_10 (by decide) ?_
  exact zt_nret dJ0_coder_7d493_14 rfl (by decide) ⟨rfl, rfl⟩
theorem c_isLatin1 : zKi g (z1 o) mJ0_isLatin1_aae02 [zTb g 2] M (fun r M' => r = 1 ∧ M' = M) := by
  refine zki_of rfl (Nat.le_of_ble_eq_true rfl) ?_
  refine zr_compact dJ0_isLatin1_aae02_0 (zc3 38 (by decide +kernel) rfl) ?_
  refine zr_if_eq (tgt := 17) dJ0_isLatin1_aae02_3 (by decide) ⟨by decide, by decide⟩ (fun h => absurd h (by decide)) (fun h => ?_)
  refine zr_aloadT 0 dJ0_isLatin1_aae02_6 rfl ?_
  refine zr_strc dJ0_isLatin1_aae02_7 (zc8 26 (by decide +kernel) rfl) ?_
  refine zr_if_ne (tgt := 17) dJ0_isLatin1_aae02_10 (by decide) ⟨by decide, by decide⟩ (fun h => absurd rfl h) (fun h => ?_)
  refine zr_iconst dJ0_isLatin1_aae02_13 ?_
  refine zr_goto (tgt := 18) dJ0_isLatin1_aae02_14 (by decide) ?_
  exact zt_zret dJ0_isLatin1_aae02_18 rfl (by decide) ⟨rfl, rfl⟩
theorem c_strLen : zKi g (z1 o) mJ0_length_8abf5 [zTb g 2] M (fun r M' => r = 79 ∧ M' = M) := by
  refine zki_of rfl (Nat.le_of_ble_eq_true rfl) ?_
  refine zr_aloadT 0 dJ0_length_8abf5_0 rfl ?_
  refine zr_strv dJ0_length_8abf5_1 (zc8 25 (by decide +kernel) rfl) ?_
  refine zr_tlen3 dJ0_length_8abf5_4 ?_
  refine zr_aloadT 0 dJ0_length_8abf5_5 rfl ?_
  refine zt_callVsi (As := []) (rest := [zI 79]) dJ0_length_8abf5_6 kJ0_length_335 rfl rfl rfl (Nat.le_of_ble_eq_true rfl) c_coder (fun r M' h => ?_)
  rw [h.1, h.2]
  refine zr_ishr dJ0_length_8abf5_9 ⟨by decide, by decide⟩ ⟨by decide, by decide⟩ ?_
  exact zt_iret dJ0_length_8abf5_10 rfl ⟨by decide, rfl⟩
theorem c_chk3 {n : Int} {v : Value} (hv : v = .null ∨ ∃ t : Nat, v = .ref t) (hx : 0 ≤ x ∧ x < n) (hn : n ≤ 2147483647) : zKi g (z1 o) mJ3_checkIndex_8e157 [zI x, zI n, v] M (fun r M' => r = x ∧ M' = M) := by
  have key : ∀ v : Value, zT g (z1 o) mJ3_checkIndex_8e157 (zQi (z1 o) (fun r M' => r = x ∧ M' = M)) 0 [(0, zI x), (1, zI n), (2, v)] [] M := fun v => by
    refine zr_iload_n 0 dJ3_checkIndex_8e157_0 rfl ?_
    refine zr_if_lt (tgt := 9) dJ3_checkIndex_8e157_1 (by decide) ⟨by omega, by omega⟩ (fun h => by omega) (fun h => ?_)
    refine zr_iload_n 0 dJ3_checkIndex_8e157_4 rfl ?_
    refine zr_iload_n 1 dJ3_checkIndex_8e157_5 rfl ?_
    refine zr_icmp_lt (tgt := 16) dJ3_checkIndex_8e157_6 (by decide) ⟨by omega, by omega⟩ ⟨by omega, by omega⟩ (fun h => ?_) (fun h => by omega)
    refine zr_iload_n 0 dJ3_checkIndex_8e157_16 rfl ?_
    exact zt_iret dJ3_checkIndex_8e157_17 rfl ⟨rfl, rfl⟩
  rcases hv with rfl | ⟨t, rfl⟩
  · exact zki_of rfl (Nat.le_of_ble_eq_true rfl) (key .null)
  · exact zki_of rfl (Nat.le_of_ble_eq_true rfl) (key (.ref t))
theorem c_chk2 {n : Int} (hx : 0 ≤ x ∧ x < n) (hn : n ≤ 2147483647) : zKv g (z1 o) mJ0_checkIndex_df160 [zI x, zI n] M (fun M' => M' = M) := by
  refine zkv_of rfl (Nat.le_of_ble_eq_true rfl) ?_
  refine zr_iload_n 0 dJ0_checkIndex_df160_0 rfl ?_
  refine zr_iload_n 1 dJ0_checkIndex_df160_1 rfl ?_
  refine zr_sioobe dJ0_checkIndex_df160_2 (zc3 54 (by decide +kernel) rfl) (fun v hv => ?_)
  refine zt_callSi (As := [zI x, zI n, v]) (rest := []) dJ0_checkIndex_df160_5 kJ0_checkIndex_1059 rfl rfl (Nat.le_of_ble_eq_true rfl) (c_chk3 hv hx hn) (fun r M' h => ?_)
  rw [h.2]
  refine zr_pop dJ0_checkIndex_df160_8 rfl ?_
  exact zt_ret dJ0_checkIndex_df160_9 rfl rfl
theorem c_latin (hx : 0 ≤ x ∧ x < 79) : zKi g (z1 o) mJ1_charAt_3b067 [zTb g 3, zI x] M (fun r M' => r = ztI.getD x.toNat 0 ∧ M' = M) := by
  have hb := (ztI_b x.toNat (by omega)).2
  refine zki_of rfl (Nat.le_of_ble_eq_true rfl) ?_
  refine zr_iload_n 1 dJ1_charAt_3b067_0 rfl ?_
  refine zr_aloadT 0 dJ1_charAt_3b067_1 rfl ?_
  refine zr_tlen3 dJ1_charAt_3b067_2 ?_
  refine zt_callSv (As := [zI x, zI 79]) (rest := []) dJ1_charAt_3b067_3 kJ1_charAt_9 rfl rfl (Nat.le_of_ble_eq_true rfl) (c_chk2 hx (by decide)) (fun M' h => ?_)
  rw [h]
  refine zr_aloadT 0 dJ1_charAt_3b067_6 rfl ?_
  refine zr_iload_n 1 dJ1_charAt_3b067_7 rfl ?_
  refine zr_tb3 dJ1_charAt_3b067_8 hx ?_
  refine zr_sipush dJ1_charAt_3b067_9 (by decide) ?_
  refine zr_iand dJ1_charAt_3b067_12 (by decide) ?_
  refine zr_i2c dJ1_charAt_3b067_13 (by omega) ?_
  have e : ztI.getD x.toNat 0 % (255 + 1) = ztI.getD x.toNat 0 := by omega
  rw [e]
  exact zt_nret dJ1_charAt_3b067_14 rfl (z_nar (by omega)) ⟨rfl, rfl⟩
theorem c_charAt (hx : 0 ≤ x ∧ x < 79) : zKi g (z1 o) mJ0_charAt_5068e [zTb g 2, zI x] M (fun r M' => r = ztI.getD x.toNat 0 ∧ M' = M) := by
  have hb := (ztI_b x.toNat (by omega)).2
  refine zki_of rfl (Nat.le_of_ble_eq_true rfl) ?_
  refine zr_aloadT 0 dJ0_charAt_5068e_0 rfl ?_
  refine zt_callVsi (As := []) (rest := []) dJ0_charAt_5068e_1 kJ0_charAt_492 rfl rfl rfl (Nat.le_of_ble_eq_true rfl) c_isLatin1 (fun r M' h => ?_)
  rw [h.1, h.2]
  refine zr_if_eq (tgt := 16) dJ0_charAt_5068e_4 (by decide) ⟨by decide, by decide⟩ (fun h => absurd h (by decide)) (fun h => ?_)
  refine zr_aloadT 0 dJ0_charAt_5068e_7 rfl ?_
  refine zr_strv dJ0_charAt_5068e_8 (zc8 25 (by decide +kernel) rfl) ?_
  refine zr_iload_n 1 dJ0_charAt_5068e_11 rfl ?_
  refine zt_callSi (As := [zTb g 3, zI x]) (rest := []) dJ0_charAt_5068e_12 kJ0_charAt_495 rfl rfl (Nat.le_of_ble_eq_true rfl) (c_latin hx) (fun r M' h => ?_)
  rw [h.1, h.2]
  exact zt_nret dJ0_charAt_5068e_15 rfl (z_nar (by omega)) ⟨rfl, rfl⟩
end ZSc
