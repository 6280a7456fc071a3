/-! the law: its loop -/
section LO
variable {p : Program} {la : Launch} {e : Env} {s : State} {m : MethodId} {below : List Frame} {meth : Method} {c : Code} {b L : Nat} {xs : Nat → Int32} {g g' : zG}
theorem law_loop (hA : LA p s m meth c b L xs g g') : ∀ (n j : Nat) (k : Int) (M1 M2 : zM) (C R : Int), L < 6 * (j + n) → 6 * j ≤ L → k ≤ j → Jt k C R M1 M2 → LR p la e s m below meth c b g g' 18 (LL b g g' ((6 * j : Nat) : Int)) [] M1 M2 := by
  intro n
  induction n with
  | zero => intro j k M1 M2 C R h1 h2; omega
  | succ n ih =>
    intro j k M1 M2 C R h1 h2 h4 hJ
    have hA' := hA
    obtain ⟨⟨hx, hb, hr, hml, hown, hts, hX, hbl, hlk, hgv⟩, hL, es, eg, -⟩ := hA'
    have hbA : ¬ (fun q : Nat => g.1 < q) b := by show ¬ g.1 < b; omega
    have next : 6 * (j + 1) ≤ L → ∀ (k' C R : Int) (N1 N2 : zM), k' ≤ ((j + 1 : Nat) : Int) → Jt k' C R N1 N2 → LR p la e s m below meth c b g g' 1471 (LL b g g' ((6 * j : Nat) : Int)) [] N1 N2 := by
      intro h6 k' C R N1 N2 hk' hJ' H locs ls hS w1 w2 hl
      refine lv_iinc (v := Int32.ofInt ((6 * (j + 1) : Nat) : Int)) (lv' := [(3, zI ((6 * (j + 1) : Nat) : Int)), (0, Value.ref b), (1, zA g 1), (2, zA g' 1)]) hx hb dL_1471 hl (k := 3) rfl ?_ (by decide) rfl (fun ls hl => ?_)
      · rw [show ((6 * (j + 1) : Nat) : Int) = ((6 * j : Nat) : Int) + 6 by omega, Int32.ofInt_add]
      · refine lv_goto (tgt := 18) hx hb dL_1474 (by decide) ?_
        exact ih (j + 1) k' N1 N2 C R (by omega) h6 hk' hJ' H locs ls hS w1 w2 (lv_sub hl [1, 2, 3, 0] rfl)
    intro H locs ls hS w1 w2 hl
    refine lv_iload_n hx hb dL_18 rfl (lv_at hl 3 rfl) ?_
    refine lv_aload_n hx hb dL_19 rfl (lv_at hl 0 rfl) ?_
    refine va_slen (A := fun q => g.1 < q) hx hb hX hbl hbA hS dL_20 ?_
    refine lv_bipush (v := Int32.ofInt 6) hx hb dL_21 (by decide) ?_
    refine lv_isub hx hb dL_23 ?_
    rw [show Int32.ofNat L - Int32.ofInt 6 = Int32.ofInt ((L : Int) - 6) by rw [Int32.ofInt_sub, Int32.ofInt_eq_ofNat]]
    refine lv_icmp_gt (tgt := 1477) hx hb dL_24 (by decide) (fun z => ?_) (fun z => ?_)
    · refine lv_iconst (v := 1) hx hb dL_1477 rfl ?_
      refine va_forget (fun q hq => ?_) (W.widen (k := 600000) (n := 7302250) (Nat.le_of_ble_eq_true rfl) (Nat.le_of_ble_eq_true rfl) (lw_ret hx hb hr hlk dL_1478))
      have := hS.2.2 q hq
      omega
    · have z : ¬ ((L : Int) - 6 < ((6 * j : Nat) : Int)) := fun h => z ((zi_lt ⟨by omega, by omega⟩ ⟨by omega, by omega⟩).mpr h)
      have h6 : 6 * (j + 1) ≤ L := by omega
      refine lv_aload_n hx hb dL_27 rfl (lv_at hl 0 rfl) ?_
      refine lv_iload_n hx hb dL_28 rfl (lv_at hl 3 rfl) ?_
      refine va_sld (A := fun q => g.1 < q) hx hb hX hbl hbA hS (zi_in (by omega) (by omega) (by omega)) dL_29 ?_
      have he : (Int32.ofInt ((6 * j : Nat) : Int)).toNatClampNeg = ((6 * j : Nat) : Int).toNat := zi_nn ⟨by omega, by omega⟩ (by omega)
      rw [he, ← sv_I xs ((6 * j : Nat) : Int)]
      refine lv_bipush (v := Int32.ofInt 63) hx hb dL_30 (by decide) ?_
      refine lv_iand hx hb dL_32 ?_
      rw [zi_and (m := 63) (Or.inr (Or.inr (Or.inl rfl)))]
      have y0 : 0 ≤ sv xs ((6 * j : Nat) : Int) % (63 + 1) := Int.emod_nonneg _ (by decide)
      have y1 : sv xs ((6 * j : Nat) : Int) % (63 + 1) < 63 + 1 := Int.emod_lt_of_pos _ (by decide)
      generalize sv xs ((6 * j : Nat) : Int) % (63 + 1) = y at y0 y1 ⊢
      have hin : zin y := ⟨by omega, by omega⟩
      by_cases h40 : y < 40
      · obtain ⟨off, tgt, o1, o2, o3⟩ := law_sw (la := la) (e := e) (below := below) (i := ((6 * j : Nat) : Int)) hA (by omega) (by omega) hJ (by omega) (fun C R N1 N2 h => next h6 (k + 1) C R N1 N2 (by omega) h) y.toNat (by omega)
        refine lv_tableIn (off := off) (tgt := tgt) hx hb dL_33 (by rw [zi_to hin]; omega) (by rw [zi_to hin]; omega) ?_ o2 (o3 H locs ls hS w1 w2 hl)
        rw [zi_to hin, Int.sub_zero]; exact o1
      · exact lv_tableOut (tgt := 1471) hx hb dL_33 (Or.inr (by rw [zi_to hin]; omega)) (by decide) (next h6 k C R M1 M2 (by omega) hJ H locs ls hS w1 w2 hl)
end LO
