/-! what holds at the start -/
theorem z_arr {s : State} {A : Array Value} {ty : FieldType} (h : (Cond.arrayClass ty).before A s = true) (hne : ∀ C, ty ≠ .object C) : ∃ cA : ClassId, ArrOfT s cA ty ∧ va_RA s cA ty := by
  obtain ⟨c, k, comp, h1, h2, h3⟩ := Cond.arrayClass_spec h
  refine ⟨c, fun n z => ⟨fun q h => (by cases h), k, h2, comp, h3⟩, ?_⟩
  cases ty with
  | object C => exact absurd rfl (hne C)
  | _ => exact h1
theorem z_arrS {s : State} {A : Array Value} {C : String} (h : (Cond.arrayOver (.object C)).before A s = true) : ∃ cA : ClassId, ArrOfT s cA (.object C) ∧ va_RA s cA (.object C) := by
  obtain ⟨comp, c, k, h1, -, h2, h3, h4⟩ := Cond.arrayOver_spec h
  exact ⟨c, fun n z => ⟨fun q h => (by cases h), k, h2, comp, h3⟩, k, comp, h2, h3, h1, h4⟩
theorem z_tab {s : State} {b : Nat} {C n d : String} {f : Nat → Int} {A : Nat → Prop} (hl : (Cond.laysStatic C n d).before #[Value.ref b] s = true) (hi : (Cond.initialized C).before #[Value.ref b] s = true) (ha : (Cond.arrayOf (.static C n d) .int).before #[Value.ref b] s = true) (hn : (Cond.eq (.length (.static C n d)) (.int 4)).before #[Value.ref b] s = true) (he : ∀ j : Nat, j < 4 → (Cond.eq (.elem (.static C n d) (.int (Int32.ofNat j))) (.int (Int32.ofInt (f j)))).before #[Value.ref b] s = true) (hA : ∀ a : Nat, a < s.heap.size → ¬ A a) : ∃ t : Nat, va_Z C n d (.ref t) A s s.heap ∧ va_T .int t 4 (fun j => zI (f j)) A s s.heap := by
  obtain ⟨t, h1, h2⟩ := va_Tof (N := 4) (f := fun j => zI (f j)) (by decide) ha (Cond.eq_int hn rfl) (fun j hj => Cond.eq_int (he j hj) rfl) hA
  exact ⟨t, va_Zref hl hi h1 hA, h2⟩
theorem z_classes {s : State} {b : Nat} (hts : ∀ w ∈ lw_tbl, w.before #[Value.ref b] s = true) : ∃ D : va_G, ∀ (k : Nat) (q : vw_C), zcls[k]? = some q → u_Kn s q.1 q.2.1 q.2.2 (D.1 k) (D.2 k) := by
  obtain ⟨c0, i0, k0⟩ := u_known (C := RX0) (T := TX0) (N := 13) (n := 13) hts (fun w hw => (List.mem_filter.mp (iX0 w hw)).1) (hts (.instantiable RX0 13) (by decide +kernel))
  obtain ⟨c1, i1, k1⟩ := u_known (C := RX1) (T := TX1) (N := 3) (n := 3) hts (fun w hw => (List.mem_filter.mp (iX1 w hw)).1) (hts (.instantiable RX1 3) (by decide +kernel))
  obtain ⟨c2, i2, k2⟩ := u_known (C := RX2) (T := TX2) (N := 11) (n := 11) hts (fun w hw => (List.mem_filter.mp (iX2 w hw)).1) (hts (.instantiable RX2 11) (by decide +kernel))
  obtain ⟨c3, i3, k3⟩ := u_known (C := RX3) (T := TX3) (N := 6) (n := 6) hts (fun w hw => (List.mem_filter.mp (iX3 w hw)).1) (hts (.instantiable RX3 6) (by decide +kernel))
  obtain ⟨c4, i4, k4⟩ := u_known (C := RX4) (T := TX4) (N := 5) (n := 5) hts (fun w hw => (List.mem_filter.mp (iX4 w hw)).1) (hts (.instantiable RX4 5) (by decide +kernel))
  obtain ⟨c5, i5, k5⟩ := u_known (C := RX5) (T := TX5) (N := 5) (n := 5) hts (fun w hw => (List.mem_filter.mp (iX5 w hw)).1) (hts (.instantiable RX5 5) (by decide +kernel))
  obtain ⟨c6, i6, k6⟩ := u_known (C := RX6) (T := TX6) (N := 9) (n := 9) hts (fun w hw => (List.mem_filter.mp (iX6 w hw)).1) (hts (.instantiable RX6 9) (by decide +kernel))
  obtain ⟨c7, i7, k7⟩ := u_known (C := RX7) (T := TX7) (N := 5) (n := 5) hts (fun w hw => (List.mem_filter.mp (iX7 w hw)).1) (hts (.instantiable RX7 5) (by decide +kernel))
  obtain ⟨c8, i8, k8⟩ := u_known (C := RX8) (T := TX8) (N := 6) (n := 6) hts (fun w hw => (List.mem_filter.mp (iX8 w hw)).1) (hts (.instantiable RX8 6) (by decide +kernel))
  obtain ⟨c9, i9, k9⟩ := u_known (C := RX9) (T := TX9) (N := 16) (n := 16) hts (fun w hw => (List.mem_filter.mp (iX9 w hw)).1) (hts (.instantiable RX9 16) (by decide +kernel))
  obtain ⟨c10, i10, k10⟩ := u_known (C := RX10) (T := TX10) (N := 46) (n := 46) hts (fun w hw => (List.mem_filter.mp (iX10 w hw)).1) (hts (.instantiable RX10 46) (by decide +kernel))
  refine ⟨(fun k => [c0, c1, c2, c3, c4, c5, c6, c7, c8, c9, c10].getD k c0, fun k => [i0, i1, i2, i3, i4, i5, i6, i7, i8, i9, i10].getD k i0), ?_⟩
  intro k q hq
  match k, hq with
    | 0, hq => cases hq; exact k0
    | 1, hq => cases hq; exact k1
    | 2, hq => cases hq; exact k2
    | 3, hq => cases hq; exact k3
    | 4, hq => cases hq; exact k4
    | 5, hq => cases hq; exact k5
    | 6, hq => cases hq; exact k6
    | 7, hq => cases hq; exact k7
    | 8, hq => cases hq; exact k8
    | 9, hq => cases hq; exact k9
    | 10, hq => cases hq; exact k10
    | k + 11, hq => simp [zcls] at hq
theorem z_begin {s : State} {b : Nat} (hts : ∀ w ∈ lw_tbl, w.before #[Value.ref b] s = true) (hgv : (Jvm.Cond.and given_1 narrow_1).before #[Value.ref b] s = true) (hbl : b < s.heap.size) : ∃ g : zG, g.1 + 1 = s.heap.size ∧ va_K g.2.1 zcls (ztys g) s ∧ zX g s := by
  have hs := flat_of_before _ hgv
  have hA : ∀ a : Nat, a < s.heap.size → ¬ (fun q : Nat => s.heap.size - 1 < q) a := fun a ha h => by
    have h' : s.heap.size - 1 < a := h
    omega
  obtain ⟨D, hD⟩ := z_classes hts
  obtain ⟨a1, p1⟩ := z_arr (ty := .int) (hts (.arrayClass .int) (by decide +kernel)) (fun C h => by cases h)
  obtain ⟨a2, p2⟩ := z_arr (ty := .boolean) (hts (.arrayClass .boolean) (by decide +kernel)) (fun C h => by cases h)
  obtain ⟨a3, p3⟩ := z_arr (ty := .long) (hts (.arrayClass .long) (by decide +kernel)) (fun C h => by cases h)
  obtain ⟨a4, p4⟩ := z_arrS (C := "SandMarch$Sand") (hts (.arrayOver (.object "SandMarch$Sand")) (by decide +kernel))
  obtain ⟨t0, z0, y0⟩ := z_tab (C := "SandMarch") (n := "RULE_LEAST") (d := "[I") (f := fun j => [1, 1, 0, 0].getD j 0) (hts _ (by decide +kernel)) (hts (.initialized "SandMarch") (by decide +kernel)) (hs _ (by decide +kernel)) (hs _ (by decide +kernel)) (fun j hj => by
    have hj' : j = 0 ∨ j = 1 ∨ j = 2 ∨ j = 3 := by omega
    rcases hj' with rfl | rfl | rfl | rfl <;> exact hs _ (by decide +kernel)) hA
  obtain ⟨t1, z1', y1⟩ := z_tab (C := "SandMarch") (n := "RULE_MOST") (d := "[I") (f := fun j => [6, 9, 16, 16].getD j 0) (hts _ (by decide +kernel)) (hts (.initialized "SandMarch") (by decide +kernel)) (hs _ (by decide +kernel)) (hs _ (by decide +kernel)) (fun j hj => by
    have hj' : j = 0 ∨ j = 1 ∨ j = 2 ∨ j = 3 := by omega
    rcases hj' with rfl | rfl | rfl | rfl <;> exact hs _ (by decide +kernel)) hA
  have zc : va_Z "java/lang/String" "COMPACT_STRINGS" "Z" (.int 1) (fun q : Nat => s.heap.size - 1 < q) s s.heap := va_Zof (hts _ (by decide +kernel)) (hts (.initialized "java/lang/String") (by decide +kernel)) (Cond.eq_int (hs (Cond.eq (.static "java/lang/String" "COMPACT_STRINGS" "Z") (.int 1)) (by decide +kernel)) rfl) hA
  have zq : va_Zq "jdk/internal/util/Preconditions" "SIOOBE_FORMATTER" "Ljava/util/function/BiFunction;" (fun q : Nat => s.heap.size - 1 < q) s s.heap := va_Zqof (hts _ (by decide +kernel)) (hts (.initialized "jdk/internal/util/Preconditions") (by decide +kernel)) (hs _ (by decide +kernel)) hA
  have hel : ∀ j : Nat, j < 79 → Cond.eq (.elem (.field (.string "SandMarch$Tape" 56) "java/lang/String" "value" "[B") (.int (Int32.ofNat j))) (.int (ztb.getD j 0)) ∈ flatC (Jvm.Cond.and given_1 narrow_1) := by decide +kernel
  have hzl : ztb.length = 79 := by decide +kernel
  obtain ⟨aK, aV, hS, hE⟩ := vk_Sof (args := #[Value.ref b]) (s := s) (N := 1) (tm := fun _ => .string "SandMarch$Tape" 56) (len := [ztb.length]) (byt := [ztb]) (A := fun q : Nat => s.heap.size - 1 < q) (fun i hi => by
      have e : i = 0 := by omega
      subst e
      show ztb.length < 2 ^ 31
      rw [hzl]; decide) (fun i hi => hs _ (by decide +kernel)) (fun i hi => hs _ (by decide +kernel)) (fun i hi => hs _ (by decide +kernel)) (fun i hi => by
      have e : i = 0 := by omega
      subst e
      show (Cond.eq (.length (.field (.string "SandMarch$Tape" 56) "java/lang/String" "value" "[B")) (.int (Int32.ofNat ztb.length))).before #[Value.ref b] s = true
      rw [hzl]; exact hs _ (by decide +kernel)) (fun i hi j hj => by
      have e : i = 0 := by omega
      subst e
      have hj' : j < 79 := by rw [← hzl]; exact hj
      exact hs _ (hel j hj')) (fun i j hi hj hne => absurd (show i = j by omega) hne) hA
  have hE0 := hE 0 (by decide)
  have hR : vk_R "SandMarch$Tape" 56 ztx (aK 0) s := vk_R.of (hts _ (by decide +kernel)) hE0
  have hS' : vk_S 1 [ztb.length] [ztb] (fun _ => aK 0) (fun _ => aV 0) (fun q : Nat => s.heap.size - 1 < q) s s.heap := by
    refine ⟨fun i hi => ?_, fun i j hi hj _ => by omega⟩
    have e : i = 0 := by omega
    subst e
    exact hS.1 0 (by decide)
  refine ⟨(s.heap.size - 1, D, fun k => if k = 1 then a1 else if k = 2 then a2 else if k = 3 then a3 else a4, fun k => if k = 0 then t0 else if k = 1 then t1 else if k = 2 then aK 0 else aV 0), by show s.heap.size - 1 + 1 = _; omega, ⟨hD, fun k q hk => ?_⟩, z0, y0, z1', y1, zc, zq, hR, hS', va_AO.of (A := #[Value.ref b]) (hts _ (by decide +kernel)), fun w hw => ?_, fun w hw => ?_⟩
  · match k, hk with
    | 0, hk => cases hk; exact p1
    | 1, hk => cases hk; exact p2
    | 2, hk => cases hk; exact p3
    | 3, hk => cases hk; exact p4
    | k + 4, hk => simp [ztys] at hk
  · have hm : ∀ w ∈ znm, Cond.methodLinkNest w.1 w.2.1 w.2.2 "SandMarch" ∈ lw_tbl := by decide +kernel
    exact va_Nw.of rfl (hts _ (hm w hw))
  · have hm : ∀ w ∈ znf, Cond.fieldLinkNest w.1 w.2.1 "SandMarch" w.2.2 "[I" "SandMarch" ∈ lw_tbl := by decide +kernel
    exact va_Nw.of rfl (hts _ (hm w hw))
