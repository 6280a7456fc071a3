/-! the law: its start -/
theorem zH.none {g : zG} {σ : zS} {M : zM} {H : Heap} (h0 : σ.2.1 = []) (hz : H.size = g.1 + 1) : zH g σ M H := by
  refine ⟨fun a => ?_, fun _ => by rw [h0]; exact hz⟩
  have hh : zh σ a = (9, 0) := by
    cases a with
    | zero => rfl
    | succ k => show σ.2.1.getD k (9, 0) = (9, 0); rw [h0]; rfl
  unfold zcell
  rw [hh]
  simp
/-- THE LAW, from its entry -/
theorem whole_start {p : Program} {e : Env} {s : State} {m : MethodId} {below : List Frame} {meth : Method} {c : Code} (l : Launch) (hflags : l.flags = flags0) {b L : Nat} {xs : Nat → Int32} (hL : L ≤ 3072) (C0 : lw_At p s m meth c b L xs) : W p l e room_1 s m #[Value.ref b] below meth c s.heap [] 0 0 (lw_Z below #[Value.ref b] s) (entryFrame m ([Value.ref b] : List Value).toArray 4) := by
  obtain ⟨hx, hb, hr, hml, hown, hts, hX, hbl, hlocks, hgv⟩ := id C0
  obtain ⟨g, es, hK, hXg⟩ := z_begin hts hgv hbl
  have hA : LA p s m meth c b L xs g (g.1 + 149, g.2) := ⟨C0, hL, es, rfl, rfl, hK, hXg⟩
  have B := hA.B
  have hl := lv_entry ([.ref b]) (n := 4) (Nat.le_of_ble_eq_true rfl)
  rw [lg_entry_eq]
  generalize (lg_sl ([.ref b]) ++ List.replicate (4 - (lg_sl ([.ref b])).length) Slot.unset).toArray = ls at hl ⊢
  have hl : lv_has ls 4 [(0, Value.ref b)] := hl
  refine ln_new (g := g) (σ := Sp zSL1 zFL1 0 []) (M := fun _ _ => 0) B hK (zH.none rfl es.symm) dL_0 nwL_7 rfl ⟨Nat.le_of_ble_eq_true rfl, Nat.le_of_ble_eq_true rfl⟩ (fun H1 hH1 hz1 hq1 => ?_)
  rw [sp_obj (m := 16) (n := 0) (by rfl)] at hH1
  refine lv_dup hx hb dL_3 rfl ?_
  refine ln_callI (g := g) (mm := (148, 15486)) (As := []) (rest := [zA g 1]) B ⟨Nat.le_refl _, Nat.le_refl _⟩ hK hXg hH1 (by omega) (fun a h h' => hq1 a h) hl dL_4 kL_9 rfl rfl (Nat.le_of_ble_eq_true rfl) ⟨Nat.le_of_ble_eq_true rfl, Nat.le_of_ble_eq_true rfl⟩ n_march (fun v σ1 N1 H2 locs2 hq hH2 hz2 hk2 hlc2 => ?_)
  obtain ⟨rfl, rfl, M0, hF, had⟩ := hq
  have sz2 : H2.size = g.1 + 149 + 1 := by
    have h := hH2.2 rfl
    rw [z1_ln] at h
    exact h
  have hS2 : va_S (fun q => g.1 < q) s.heap H2 locs2 := by
    refine ⟨Nat.le_trans hz1 hz2, fun q z1 z2 => ?_, fun q hq => ?_⟩
    · rw [hk2 q (Nat.lt_of_lt_of_le z1 hz1) (fun h => z2 h.1)]; exact hq1 q z1
    · rcases hlc2 q hq with h | h
      · cases h
      · exact h.1
  refine lv_astore_n (lv' := [(1, zA g 1), (0, Value.ref b)]) hx hb dL_7 rfl hl (by decide) rfl (fun ls hl => ?_)
  refine ln_new (g := (g.1 + 149, g.2)) (σ := Sp zSL2 zFL2 0 []) (M := fun _ _ => 0) B hA.K' (zH.none rfl sz2) dL_8 nwL_10 rfl ⟨Nat.le_of_ble_eq_true rfl, Nat.le_of_ble_eq_true rfl⟩ (fun H3 hH3 hz3 hq3 => ?_)
  rw [sp_obj (m := 46) (n := 0) (by rfl)] at hH3
  refine lv_dup hx hb dL_11 rfl ?_
  have hS3 : va_S (fun q => g.1 < q) s.heap H3 locs2 := ⟨Nat.le_trans hS2.1 hz3, fun q z1 z2 => (hq3 q (Nat.lt_of_lt_of_le z1 hS2.1)).trans (hS2.2.1 q z1 z2), hS2.2.2⟩
  have w2 : zH g (z1 false) N1 H2 := zH.shut hH2
  have w3 : zH g (z1 false) N1 H3 := w2.stay rfl (fun a a1 a2 => hq3 _ (by rw [z1_ln] at a2; omega))
  refine ln_callI (g := (g.1 + 149, g.2)) (mm := (24, 11651)) (As := []) (rest := [zA (g.1 + 149, g.2) 1]) B ⟨Nat.le_refl _, Nat.le_refl _⟩ hA.K' hA.X' hH3 (by show g.1 + 149 < H3.size; omega) (fun a h h' => hS3.2.1 a h (fun z => by have z : g.1 < a := z; omega)) hl dL_12 kL_12 rfl rfl (Nat.le_of_ble_eq_true rfl) ⟨Nat.le_of_ble_eq_true rfl, Nat.le_of_ble_eq_true rfl⟩ (n_model (zrw_row _ _ _) hF) (fun v σ2 N2 H4 locs4 hq hH4 hz4 hk4 hlc4 => ?_)
  obtain ⟨rfl, rfl, Bm, hb0, hb1, hb9, hb10, hb26, hb43⟩ := hq
  have hS4 : va_S (fun q => g.1 < q) s.heap H4 locs4 := by
    refine ⟨Nat.le_trans hS3.1 hz4, fun q z1 z2 => ?_, fun q hq => ?_⟩
    · rw [hk4 q (Nat.lt_of_lt_of_le z1 hS3.1) (fun h => z2 (by have h : g.1 + 149 < q := h.1; show g.1 < q; omega))]; exact hS3.2.1 q z1 z2
    · rcases hlc4 q hq with h | h
      · exact hS3.2.2 q h
      · have h : g.1 + 149 < q.base := h.1
        show g.1 < q.base
        omega
  have w4 : zH g (z1 false) N1 H4 := w3.stay rfl (fun a a1 a2 => hk4 _ (by rw [z1_ln] at a2; omega) (fun h => by rw [z1_ln] at a2; have h : g.1 + 149 < g.1 + a := h.1; omega))
  refine lv_astore_n (lv' := [(2, zA (g.1 + 149, g.2) 1), (1, zA g 1), (0, Value.ref b)]) hx hb dL_15 rfl hl (by decide) rfl (fun ls hl => ?_)
  refine lv_iconst (v := Int32.ofInt 0) hx hb dL_16 rfl ?_
  refine lv_istore_n (lv' := [(3, zI 0), (2, zA (g.1 + 149, g.2) 1), (1, zA g 1), (0, Value.ref b)]) hx hb dL_17 rfl hl (by decide) rfl (fun ls hl => ?_)
  exact law_loop hA (L + 1) 0 0 N1 N2 8 4 (by omega) (by omega) (by decide) (j_start hF had hb0 hb1 hb9 hb10 hb26 hb43) H4 locs4 ls hS4 w4 (zH.shut hH4) (lv_sub hl [3, 2, 1, 0] rfl)
