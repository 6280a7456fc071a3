section AD
variable {g g' : zG} {o o' : Bool} {M M' N A1 A2 M1 M2 N1 N2 : zM} {k C R c x v B T x1 x2 : Int} {p : Nat → Nat} {d e t u : Nat} {f : Int → Int}
theorem p_sow (hJ : Jt k C R M1 M2) (hk : k < 1000) (h1 : -2147483648 ≤ x1 ∧ x1 ≤ 2147483647) (h2 : x2 = 0 ∨ x2 = 1) : zE g g' o o' mX9_sow mX10_sow [zI x1, zI x2] k M1 M2 := by
  obtain ⟨hL, hR⟩ := hJ.lr
  have hgn := geo_n hL.1
  have hk0 := hJ.1
  by_cases hc : 0 ≤ x1 ∧ x1 < C * R
  · have b0 := hJ.2.2.1.2.2.1 x1 hc.1 (by omega)
    have eg : M1 26 x1 = M2 10 (96 + x1) := hJ.eg x1 hc.1 (by omega)
    by_cases hx : M2 10 (96 + x1) = x2
    · exact zE_of (A := -1) hJ hk (zki_of rfl (Nat.le_of_ble_eq_true rfl) (SX9_sow_0 (C := C) (R := R) ⟨h1, hL, fun h => absurd hc h, fun _ => ⟨by omega, by omega, fun _ => ⟨by omega, fun h => by omega, fun _ => ⟨rfl, fr1.rf⟩⟩, fun _ => ⟨by omega, fun h => by omega, fun _ => ⟨rfl, fr1.rf⟩⟩⟩⟩)) (zki_of rfl (Nat.le_of_ble_eq_true rfl) (SX10_sow_0 (C := C) (R := R) ⟨hR, h1, fun h => absurd hc h, fun _ => ⟨by omega, h2, by omega, by omega, fun h => absurd hx h, fun _ => ⟨rfl, fr2.rf⟩⟩⟩))
    · obtain ⟨d, hd, hd2⟩ := hJ.acts
      have hA : ∀ b : Nat, b ≠ 26 → zu M1 26 x1 x2 b = M1 b := fun b hb => zu_other hb
      have cls : ∀ y : Int, y = x2 → ∃ q9 : zM → Prop, zKv g (z1 o) mX1_add [zA g 36, zA g 24] (zu M1 26 x1 y) q9 ∧ ∀ N1 : zM, q9 N1 → zLand N1 C R ∧ sOk N1 24 ∧ (smt (N1 26) (C * R).toNat = smt (zu M1 26 x1 x2 26) (C * R).toNat ∧ (∀ b : Nat, b < 36 ∨ 121 < b → N1 b = zu M1 26 x1 x2 b) ∧ ∀ N2 : zM, rEq (zu M1 26 x1 x2) 24 (N2 10) → acR M2 N2 → jH (3000 + 600 * k) (600 * k) C R N1 N2) := by
        intro y hy
        rw [hy]
        obtain ⟨q, hc', hq⟩ := hJ.add (g := g) (o := o) (A1 := zu M1 26 x1 x2) (fun b p q => hA b (by omega))
        refine ⟨q, hc', fun N1 h => ?_⟩
        obtain ⟨f1, f2⟩ := hq N1 h
        refine ⟨hL.of (fun b p q => by rw [f1 b (by omega), hA b (by omega)]), ?_, by rw [f1 26 (by decide)], f1, f2⟩
        obtain ⟨o1, o2, o3, o4, o5, o6, o7, o8⟩ := hJ.sok
        unfold sOk SandOK
        rw [f1 24 (by decide), f1 (24 + 1) (by decide), f1 (24 + 2) (by decide), f1 (24 + 3) (by decide), hA 24 (by decide), hA (24 + 1) (by decide), hA (24 + 3) (by decide)]
        refine ⟨o1, fun i p q => ?_, o3, o4, o5, o6, o7, o8⟩
        rw [zu_row]; split
        · omega
        · exact o2 i p q
      refine ⟨fun r N1 => r = smt (zu M1 26 x1 x2 26) (C * R).toNat ∧ (∀ b : Nat, b < 36 ∨ 121 < b → N1 b = zu M1 26 x1 x2 b) ∧ ∀ N2 : zM, rEq (zu M1 26 x1 x2) 24 (N2 10) → acR M2 N2 → jH (3000 + 600 * k) (600 * k) C R N1 N2,
        fun r N2 => r = smt (fun i => N2 10 (96 + i)) (C * R).toNat ∧ acR M2 N2 ∧ (∀ b : Nat, b ≠ 1 → b ≠ 10 → b ≠ 12 → N2 b = M2 b) ∧ (∀ i : Int, i ≠ 28 → i ≠ 29 → N2 1 i = M2 1 i) ∧ ∀ i : Int, N2 10 i = if i = 96 + x1 then x2 else M2 10 i,
        zki_of rfl (Nat.le_of_ble_eq_true rfl) (SX9_sow_0 (C := C) (R := R) ⟨h1, hL, fun h => absurd hc h, fun _ => ⟨by omega, by omega, fun h0 => ⟨by omega, fun _ => ⟨fun _ => ?_, fun h => absurd h0 h⟩, fun h => by omega⟩, fun h0 => ⟨by omega, fun _ => ⟨fun h => absurd h h0, fun _ => ?_⟩, fun h => by omega⟩⟩⟩), zki_of rfl (Nat.le_of_ble_eq_true rfl) (SX10_sow_0 (C := C) (R := R) ⟨hR, h1, fun h => absurd hc h, fun _ => ⟨by omega, h2, by omega, by omega, fun _ => ⟨_, c_act hd hd2, fun A2 ha => ?_⟩, fun h => absurd h hx⟩⟩), fun r N1 r' N2 q q' => ?_⟩
      · exact cls 0 h0.symm
      · exact cls 1 (by omega)
      · obtain ⟨a1, a2, a3⟩ := ha
        refine ⟨hR.of (by rw [zu_other (by decide), a2 3 (by decide) (by decide)]) (by rw [zu_other (by decide), a2 4 (by decide) (by decide)]) (by rw [zu_other (by decide), a2 5 (by decide) (by decide)]), rfl, a1.of (zu_other (by decide)) (by rw [zu_other (by decide)]) (by rw [zu_other (by decide)]), fun b p q r => by rw [zu_other q, a2 b p r], fun i p q => by rw [zu_other (by decide), a3 i p q], fun i => by rw [zu_row, a2 10 (by decide) (by decide)]⟩
      · obtain ⟨q1, q4, q5⟩ := q
        obtain ⟨p1, p2, p3, p4, p5⟩ := q'
        obtain ⟨e1, e2, e3, e4, e5⟩ := hJ.2.2.1.1
        obtain ⟨u1, u2, u3, u4, u5, u6, u7, u8, u9⟩ := hJ.2.2.1.2
        have hrq : rEq (zu M1 26 x1 x2) 24 (N2 10) := by
          refine ⟨fun i p q => ?_, fun i p q => ?_, fun i p q => ?_, ?_, ?_⟩
          · rw [hA _ (by decide), p5, if_neg (by omega)]; exact e1 i p q
          · show zu M1 26 x1 x2 26 i = _
            rw [zu_row, p5]
            by_cases hi : i = x1
            · rw [if_pos hi, if_pos (by omega)]
            · rw [if_neg hi, if_neg (by omega)]; exact e2 i p q
          · rw [hA _ (by decide), p5, if_neg (by omega)]; exact e3 i p q
          · rw [hA _ (by decide), p5, if_neg (by omega)]; exact e4
          · rw [hA _ (by decide), p5, if_neg (by omega)]; exact e5
        have hro : rOK C R (3000 + 600 * (k + 1)) (600 * (k + 1)) (N2 10) := by
          refine ⟨fun i p q => by rw [p5, if_neg (by omega)]; have := u1 i p q; omega, fun i p q => ?_, by rw [p5, if_neg (by omega)]; exact u3, by rw [p5, if_neg (by omega)]; exact u4, by rw [p5, if_neg (by omega)]; exact u5, by rw [p5, if_neg (by omega)]; exact u6, by rw [p5, if_neg (by omega)]; exact u7, by rw [p5, if_neg (by omega)]; omega, fun i p q => by rw [p5, if_neg (by omega)]; exact u9 i p q⟩
          rw [p5]; split
          · omega
          · exact u2 i p q
        have hfr : rEq N1 24 (N2 10) := hrq.fr (q4 24 (by decide)) (q4 25 (by decide)) (q4 26 (by decide)) (q4 27 (by decide))
        refine ⟨?_, C, R, hJ.acted hk (fun b hb => by rw [q4 b (by omega), hA b (by omega)]) hfr hro (q5 N2 hrq p2) (fun b hb => p3 b (by omega) (by omega) (by omega)) (fun i hi => p4 i (by omega) (by omega))⟩
        rw [q1, p1]
        exact smt_congr (fun i p q => hrq.2.1 i p (by omega))
  · exact zE_of (A := -1) hJ hk (zki_of rfl (Nat.le_of_ble_eq_true rfl) (SX9_sow_0 (C := C) (R := R) ⟨h1, hL, fun _ => ⟨rfl, fr1.rf⟩, fun h => absurd h hc⟩)) (zki_of rfl (Nat.le_of_ble_eq_true rfl) (SX10_sow_0 (C := C) (R := R) ⟨hR, h1, fun _ => ⟨rfl, fr2.rf⟩, fun h => absurd h hc⟩))
theorem rul_tv (h : 0 ≤ x1 ∧ x1 ≤ 3) : (rul x1 x2 ↔ zTv 0 x1.toNat ≤ x2 ∧ x2 ≤ zTv 1 x1.toNat) ∧ (0 ≤ zTv 0 x1.toNat ∧ zTv 0 x1.toNat ≤ 1) ∧ 6 ≤ zTv 1 x1.toNat ∧ zTv 1 x1.toNat ≤ 16 := by
  have hw : x1 = 0 ∨ x1 = 1 ∨ x1 = 2 ∨ x1 = 3 := by omega
  rcases hw with rfl | rfl | rfl | rfl
  · exact ⟨Iff.rfl, by decide, by decide⟩
  · exact ⟨Iff.rfl, by decide, by decide⟩
  · exact ⟨Iff.rfl, by decide, by decide⟩
  · exact ⟨Iff.rfl, by decide, by decide⟩
theorem p_turn (hJ : Jt k C R M1 M2) (hk : k < 1000) (h1 : -2147483648 ≤ x1 ∧ x1 ≤ 2147483647) (h2 : -2147483648 ≤ x2 ∧ x2 ≤ 2147483647) : zE g g' o o' mX9_turn mX10_turn [zI x1, zI x2] k M1 M2 := by
  obtain ⟨hL, hR⟩ := hJ.lr
  have hk0 := hJ.1
  by_cases hx : 0 ≤ x1 ∧ x1 ≤ 3
  · obtain ⟨t1, t2, t3⟩ := rul_tv (x2 := x2) hx
    by_cases hr : rul x1 x2
    · have hr' := t1.mp hr
      obtain ⟨d, hd, hd2⟩ := hJ.acts
      have hA : ∀ b : Nat, b ≠ 27 → zu M1 27 x1 x2 b = M1 b := fun b hb => zu_other hb
      refine ⟨fun r N1 => r = M1 27 x1 ∧ (∀ b : Nat, b < 36 ∨ 121 < b → N1 b = zu M1 27 x1 x2 b) ∧ ∀ N2 : zM, rEq (zu M1 27 x1 x2) 24 (N2 10) → acR M2 N2 → jH (3000 + 600 * k) (600 * k) C R N1 N2,
        fun r N2 => r = M2 10 (192 + x1) ∧ acR M2 N2 ∧ (∀ b : Nat, b ≠ 1 → b ≠ 10 → b ≠ 12 → N2 b = M2 b) ∧ (∀ i : Int, i ≠ 28 → i ≠ 29 → N2 1 i = M2 1 i) ∧ ∀ i : Int, N2 10 i = if i = 192 + x1 then x2 else M2 10 i,
        zki_of rfl (Nat.le_of_ble_eq_true rfl) (SX9_turn_0 ⟨h1, fun h => by omega, fun _ => ⟨fun h => by omega, fun _ => ⟨by omega, h2, by omega, fun h => by omega, fun _ => ⟨by omega, fun _ => ?_, fun h => by omega⟩⟩⟩⟩), zki_of rfl (Nat.le_of_ble_eq_true rfl) (SX10_turn_0 ⟨h1, fun h => absurd hx h, fun _ => ⟨h2, fun _ => ⟨_, c_act hd hd2, fun A2 ha => ?_⟩, fun h => absurd hr h⟩⟩), fun r N1 r' N2 q q' => ?_⟩
      · obtain ⟨q, hc', hq⟩ := hJ.add (g := g) (o := o) (A1 := zu M1 27 x1 x2) (fun b p q => hA b (by omega))
        exact ⟨q, hc', fun N1 h => ⟨rfl, hq N1 h⟩⟩
      · obtain ⟨a1, a2, a3⟩ := ha
        refine ⟨by omega, by rw [a2 10 (by decide) (by decide)], a1.of (zu_other (by decide)) (by rw [zu_other (by decide)]) (by rw [zu_other (by decide)]), fun b p q r => by rw [zu_other q, a2 b p r], fun i p q => by rw [zu_other (by decide), a3 i p q], fun i => by rw [zu_row, a2 10 (by decide) (by decide)]⟩
      · obtain ⟨q1, q4, q5⟩ := q
        obtain ⟨p1, p2, p3, p4, p5⟩ := q'
        obtain ⟨e1, e2, e3, e4, e5⟩ := hJ.2.2.1.1
        obtain ⟨u1, u2, u3, u4, u5, u6, u7, u8, u9⟩ := hJ.2.2.1.2
        have hrq : rEq (zu M1 27 x1 x2) 24 (N2 10) := by
          refine ⟨fun i p q => ?_, fun i p q => ?_, fun i p q => ?_, ?_, ?_⟩
          · rw [hA _ (by decide), p5, if_neg (by omega)]; exact e1 i p q
          · rw [hA _ (by decide), p5, if_neg (by omega)]; exact e2 i p q
          · show zu M1 27 x1 x2 27 i = _
            rw [zu_row, p5]
            by_cases hi : i = x1
            · rw [if_pos hi, if_pos (by omega)]
            · rw [if_neg hi, if_neg (by omega)]; exact e3 i p q
          · rw [hA _ (by decide), p5, if_neg (by omega)]; exact e4
          · rw [hA _ (by decide), p5, if_neg (by omega)]; exact e5
        have hru : ∀ (j lo hi : Int), 0 ≤ j → (x1 = j → lo ≤ x2 ∧ x2 ≤ hi) → (lo ≤ M2 10 (192 + j) ∧ M2 10 (192 + j) ≤ hi) → lo ≤ N2 10 (192 + j) ∧ N2 10 (192 + j) ≤ hi := fun j lo hi hj h h' => by
          rw [p5]; split
          · exact h (by omega)
          · exact h'
        have tv : ∀ j : Nat, x1 = j → zTv 0 j ≤ x2 ∧ x2 ≤ zTv 1 j := fun j hj => by rw [hj] at hr'; exact hr'
        have hro : rOK C R (3000 + 600 * (k + 1)) (600 * (k + 1)) (N2 10) := by
          have hgn := geo_n hL.1
          refine ⟨fun i p q => by rw [p5, if_neg (by omega)]; have := u1 i p q; omega, fun i p q => by rw [p5, if_neg (by omega)]; exact u2 i p q, hru 0 1 6 (by decide) (fun h => tv 0 h) u3, hru 1 1 9 (by decide) (fun h => tv 1 h) u4, hru 2 0 16 (by decide) (fun h => tv 2 h) u5, hru 3 0 16 (by decide) (fun h => tv 3 h) u6, by rw [p5, if_neg (by omega)]; exact u7, by rw [p5, if_neg (by omega)]; omega, fun i p q => by rw [p5, if_neg (by omega)]; exact u9 i p q⟩
        have hfr : rEq N1 24 (N2 10) := hrq.fr (q4 24 (by decide)) (q4 25 (by decide)) (q4 26 (by decide)) (q4 27 (by decide))
        refine ⟨by rw [q1, p1]; exact hJ.er x1 hx.1 (by omega), C, R, hJ.acted hk (fun b hb => by rw [q4 b (by omega), hA b (by omega)]) hfr hro (q5 N2 hrq p2) (fun b hb => p3 b (by omega) (by omega) (by omega)) (fun i hi => p4 i (by omega) (by omega))⟩
    · have hr' : ¬ (zTv 0 x1.toNat ≤ x2 ∧ x2 ≤ zTv 1 x1.toNat) := fun h => hr (t1.mpr h)
      exact zE_of (A := -1) hJ hk (zki_of rfl (Nat.le_of_ble_eq_true rfl) (SX9_turn_0 ⟨h1, fun h => by omega, fun _ => ⟨fun h => by omega, fun _ => ⟨by omega, h2, by omega, fun _ => ⟨rfl, fr1.rf⟩, fun _ => ⟨by omega, fun h => by omega, fun _ => ⟨rfl, fr1.rf⟩⟩⟩⟩⟩)) (zki_of rfl (Nat.le_of_ble_eq_true rfl) (SX10_turn_0 ⟨h1, fun h => absurd hx h, fun _ => ⟨h2, fun h => absurd h hr, fun _ => ⟨rfl, fr2.rf⟩⟩⟩))
  · exact zE_of (A := -1) hJ hk (zki_of rfl (Nat.le_of_ble_eq_true rfl) (SX9_turn_0 ⟨h1, fun _ => ⟨rfl, fr1.rf⟩, fun _ => ⟨fun _ => ⟨rfl, fr1.rf⟩, fun h => by omega⟩⟩)) (zki_of rfl (Nat.le_of_ble_eq_true rfl) (SX10_turn_0 ⟨h1, fun _ => ⟨rfl, fr2.rf⟩, fun h => absurd h hx⟩))
theorem c_exchanges (hx : 0 ≤ x ∧ x < 20) : zKv g (z2 o) mX10_exchanges [zA g 1, zI x] M (fun N => (∀ i : Int, 0 ≤ i → i < 198 → N 12 (198 * x + i) = M 10 i ∧ N 10 i = M 12 (198 * x + i)) ∧ (∀ j : Int, j < 198 * x ∨ 198 * x + 198 ≤ j → N 12 j = M 12 j) ∧ ∀ b : Nat, b ≠ 10 → b ≠ 12 → N b = M b) := by
  refine zkv_of rfl (Nat.le_of_ble_eq_true rfl) (SX10_exchanges_0 ?_)
  suffices hs : ∀ (n : Nat) (k : Int) (M1 : zM), 0 ≤ k → k + n = 198 → (∀ i : Int, 0 ≤ i → i < k → M1 12 (198 * x + i) = M 10 i ∧ M1 10 i = M 12 (198 * x + i)) → (∀ i : Int, k ≤ i → i < 198 → M1 12 (198 * x + i) = M 12 (198 * x + i) ∧ M1 10 i = M 10 i) → (∀ j : Int, j < 198 * x ∨ 198 * x + 198 ≤ j → M1 12 j = M 12 j) → (∀ b : Nat, b ≠ 10 → b ≠ 12 → M1 b = M b) → zT g (z2 o) mX10_exchanges (zQv (z2 o) (fun N => (∀ i : Int, 0 ≤ i → i < 198 → N 12 (198 * x + i) = M 10 i ∧ N 10 i = M 12 (198 * x + i)) ∧ (∀ j : Int, j < 198 * x ∨ 198 * x + 198 ≤ j → N 12 j = M 12 j) ∧ ∀ b : Nat, b ≠ 10 → b ≠ 12 → N b = M b)) 2 [(0, zA g 1), (1, zI x), (2, zI k)] [] M1 from hs 198 0 M (by omega) (by omega) (fun i p q => by omega) (fun _ _ _ => ⟨rfl, rfl⟩) (fun _ _ => rfl) (fun _ _ _ => rfl)
  intro n
  induction n with
  | zero =>
    intro k M1 h0 hk ha hb hc hd
    exact SX10_exchanges_2 ⟨by omega, fun _ => ⟨fun i p q => ha i p (by omega), hc, hd⟩, fun h => by omega⟩
  | succ n ih =>
    intro k M1 h0 hk ha hb hc hd
    have hk' := hb k (by omega) (by omega)
    refine SX10_exchanges_2 ⟨by omega, fun h => by omega, fun _ => ⟨by omega, by omega, fun N4 e4 => ?_⟩⟩
    have n12 : zu N4 10 k (M1 12 (198 * x + k)) 12 = zu M1 12 (198 * x + k) (M1 10 k) 12 := by rw [zu_other (by decide), e4]
    have n10 : zu N4 10 k (M1 12 (198 * x + k)) 10 = up (M1 10) k (M1 12 (198 * x + k)) := by
      funext j; rw [zu_row, e4, zu_other (by decide)]; rfl
    refine ih (k + 1) _ (by omega) (by omega) (fun i p q => ?_) (fun i p q => ?_) (fun j hj => ?_) (fun b p q => by rw [zu_other p, e4, zu_other q, hd b p q])
    · rw [n12, n10, zu_row]
      unfold up
      by_cases e : i = k
      · rw [if_pos (by omega), if_pos e, hk'.1, hk'.2, e]; exact ⟨rfl, rfl⟩
      · rw [if_neg (by omega), if_neg e]; exact ha i p (by omega)
    · rw [n12, n10, zu_row]
      unfold up
      rw [if_neg (by omega), if_neg (by omega)]; exact hb i (by omega) q
    · rw [n12, zu_row, if_neg (by omega)]; exact hc j hj
/-- the class's side of undo and redo: what is now becomes a kept state -/
theorem hist_rows (h6 : jHp M1 p) (hb : ∀ b : Nat, 37 ≤ b → b ≤ 121 → N1 b = M1 b) : ∀ i : Nat, i < 21 → ∀ f, rEq M1 (p i) f → rEq N1 (p i) f := fun i hi f hf => by
  have ri := zhs_in (h6.1 i hi).2
  exact hf.fr (hb _ (by omega) (by omega)) (hb _ (by omega) (by omega)) (hb _ (by omega) (by omega)) (hb _ (by omega) (by omega))
theorem p_undo (hJ : Jt k C R M1 M2) (hk : k < 1000) : zE g g' o o' mX9_undo mX10_undo [] k M1 M2 := by
  obtain ⟨hL, hR⟩ := hJ.lr
  have hk0 := hJ.1
  obtain ⟨p, d, u, h1, h2, h3, h4, h5, h6, h7, h8, h9⟩ := hJ.2.2.2.2.1
  by_cases hd : d = 0
  · have hcl : zKi g (z1 o) mX1_goBack [zA g 36, zA g 24] M1 (fun r N => r = 0 ∧ fr1 M1 N) := zki_of rfl (Nat.le_of_ble_eq_true rfl) (SX1_goBack_0 (show zSd 24 by unfold zSd; decide) ⟨by omega, fun h => by omega, fun _ => ⟨rfl, fr1.rf⟩⟩)
    exact zE_of (A := 0) hJ hk (zki_of rfl (Nat.le_of_ble_eq_true rfl) (SX9_undo_0 ⟨_, hcl, fun r N h => ⟨Or.inl h.1, h⟩⟩)) (zki_of rfl (Nat.le_of_ble_eq_true rfl) (SX10_undo_0 ⟨by omega, fun h => by omega, fun _ => ⟨rfl, fr2.rf⟩⟩))
  · have h24 : zSd 24 := by unfold zSd; decide
    have hz := (zhs_in (h6.1 (d - 1) (by omega)).2)
    have hcl : zKi g (z1 o) mX1_goBack [zA g 36, zA g 24] M1 (fun r N => r = 1 ∧ N 36 1 = ((d - 1 : Nat) : Int) ∧ N 36 2 = ((u + 1 : Nat) : Int) ∧ zsame M1 N 24 (p (d - 1)) ∧ ∀ b : Nat, b ≠ 36 → b < 24 ∨ 27 < b → N b = M1 b) := by
      refine zki_of rfl (Nat.le_of_ble_eq_true rfl) (SX1_goBack_0 h24 ⟨by omega, fun _ N2 e2 => ?_, fun h => by omega⟩)
      have e36 : zu N2 36 2 (N2 36 2 + 1) 36 1 = ((d - 1 : Nat) : Int) := by rw [zu_row, if_neg (by decide), e2, zu_at, h1]; omega
      have ob : ∀ b : Nat, b ≠ 36 → zu N2 36 2 (N2 36 2 + 1) b = M1 b := fun b hb => by rw [zu_other hb, e2, zu_other hb]
      have e362 : zu N2 36 2 (N2 36 2 + 1) 36 2 = ((u + 1 : Nat) : Int) := by rw [zu_at, e2, zu_row, if_neg (by decide), h3]; omega
      have z36 := zsd_36 hz.2.2
      rw [e36]
      refine ⟨by omega, p (d - 1), ?_, hz.2.2, _, c_copy h24 hz.2.2, fun M8 hq => ?_⟩
      · rw [ob 37 (by decide)]; exact (h6.1 (d - 1) (by omega)).1
      · obtain ⟨s1, s2⟩ := hq
        refine ⟨rfl, by rw [s2 36 (by decide) (by decide) (by decide) (by decide)]; exact e36, by rw [s2 36 (by decide) (by decide) (by decide) (by decide)]; exact e362, s1.pre (ob _ (by omega)) (ob _ (by omega)) (ob _ (by omega)) (ob _ (by omega)), fun b hb hb2 => by rw [s2 b (by omega) (by omega) (by omega) (by omega), ob b hb]⟩
    refine ⟨_, fun r N => r = 1 ∧ N 1 28 = ((d - 1 : Nat) : Int) ∧ N 1 29 = ((u + 1 : Nat) : Int) ∧ (∀ i : Int, 0 ≤ i → i < 198 → N 12 (198 * ((d - 1 : Nat) : Int) + i) = M2 10 i ∧ N 10 i = M2 12 (198 * ((d - 1 : Nat) : Int) + i)) ∧ (∀ j : Int, j < 198 * ((d - 1 : Nat) : Int) ∨ 198 * ((d - 1 : Nat) : Int) + 198 ≤ j → N 12 j = M2 12 j) ∧ (∀ b : Nat, b ≠ 1 → b ≠ 10 → b ≠ 12 → N b = M2 b) ∧ ∀ i : Int, i ≠ 28 → i ≠ 29 → N 1 i = M2 1 i, zki_of rfl (Nat.le_of_ble_eq_true rfl) (SX9_undo_0 ⟨_, hcl, fun r N h => ⟨Or.inr h.1, h⟩⟩), zki_of rfl (Nat.le_of_ble_eq_true rfl) (SX10_undo_0 ⟨by omega, fun _ N2 e2 => ?_, fun h => by omega⟩), fun r N1 r' N2 q q' => ?_⟩
    · have e28 : zu N2 1 29 (N2 1 29 + 1) 1 28 = ((d - 1 : Nat) : Int) := by rw [zu_row, if_neg (by decide), e2, zu_at, h2]; omega
      have e29 : zu N2 1 29 (N2 1 29 + 1) 1 29 = ((u + 1 : Nat) : Int) := by rw [zu_at, e2, zu_row, if_neg (by decide), h4]; omega
      have ob : ∀ b : Nat, b ≠ 1 → zu N2 1 29 (N2 1 29 + 1) b = M2 b := fun b hb => by rw [zu_other hb, e2, zu_other hb]
      rw [e28]
      refine ⟨_, c_exchanges (by omega), fun M6 hq => ?_⟩
      obtain ⟨s1, s2, s3⟩ := hq
      refine ⟨rfl, by rw [s3 1 (by decide) (by decide)]; exact e28, by rw [s3 1 (by decide) (by decide)]; exact e29, fun i p q => by rw [← ob 10 (by decide), ← ob 12 (by decide)]; exact s1 i p q, fun j hj => by rw [← ob 12 (by decide)]; exact s2 j hj, fun b a b' c => by rw [s3 b b' c, ob b a], fun i a b => by rw [s3 1 (by decide) (by decide), zu_row, if_neg b, e2, zu_row, if_neg a]⟩
    · obtain ⟨q1, q2, q3, q4, q5⟩ := q
      obtain ⟨p1, p2, p3, p4, p5, p6, p7⟩ := q'
      have eqn : eqr (rwk (M2 12) ((d - 1 : Nat) : Int)) (N2 10) := fun i a b => (p4 i a b).2.symm
      have eqo : eqr (M2 10) (rwk (N2 12) ((d - 1 : Nat) : Int)) := fun i a b => (p4 i a b).1.symm
      have hr := hist_rows (N1 := N1) h6 (fun b a c => q5 b (by omega) (by omega))
      have hG := hL.1
      have c0 := h7 (d - 1) (by omega)
      have hB' : (3000 + 600 * k : Int) ≤ 3000 + 600 * (k + 1) := by omega
      refine ⟨by omega, C, R, hJ.acted hk (fun b hb => q5 b (by omega) (by omega)) ((c0.1.same q4).of eqn) ((c0.2.of hG eqn).mono (by omega) (by omega)) ⟨p, d - 1, u + 1, q2, p2, q3, p3, by omega, ⟨fun i hi => ⟨by rw [q5 37 (by decide) (by decide)]; exact (h6.1 i hi).1, (h6.1 i hi).2⟩, h6.2⟩, fun i hi => ?_, fun i a b => ?_, ?_⟩ (fun b hb => p6 b (by omega) (by omega) (by omega)) (fun i hi => p7 i (by omega) (by omega))⟩
      · have c1 := h7 i (by omega)
        have eq : eqr (rwk (M2 12) i) (rwk (N2 12) i) := fun j a b => (p5 (198 * i + j) (by omega)).symm
        exact ⟨(hr i (by omega) _ c1.1).of eq, c1.2.of hG eq⟩
      · by_cases e : i = d - 1
        · rw [e, show d - 1 + 1 = d by omega]
          exact ⟨(hr d (by omega) _ h9).of eqo, hJ.2.2.1.2.of hG eqo⟩
        · have c1 := h8 i (by omega) (by omega)
          have eq : eqr (rwk (M2 12) i) (rwk (N2 12) i) := fun j a b => (p5 (198 * i + j) (by omega)).symm
          exact ⟨(hr (i + 1) (by omega) _ c1.1).of eq, c1.2.of hG eq⟩
      · exact (hr (d - 1) (by omega) _ c0.1).of eqn
theorem p_redo (hJ : Jt k C R M1 M2) (hk : k < 1000) : zE g g' o o' mX9_redo mX10_redo [] k M1 M2 := by
  obtain ⟨hL, hR⟩ := hJ.lr
  have hk0 := hJ.1
  obtain ⟨p, d, u, h1, h2, h3, h4, h5, h6, h7, h8, h9⟩ := hJ.2.2.2.2.1
  by_cases hd : u = 0
  · have hcl : zKi g (z1 o) mX1_goOn [zA g 36, zA g 24] M1 (fun r N => r = 0 ∧ fr1 M1 N) := zki_of rfl (Nat.le_of_ble_eq_true rfl) (SX1_goOn_0 (show zSd 24 by unfold zSd; decide) ⟨by omega, fun h => by omega, fun _ => ⟨rfl, fr1.rf⟩⟩)
    exact zE_of (A := 0) hJ hk (zki_of rfl (Nat.le_of_ble_eq_true rfl) (SX9_redo_0 ⟨_, hcl, fun r N h => ⟨Or.inl h.1, h⟩⟩)) (zki_of rfl (Nat.le_of_ble_eq_true rfl) (SX10_redo_0 ⟨by omega, fun h => by omega, fun _ => ⟨rfl, fr2.rf⟩⟩))
  · have h24 : zSd 24 := by unfold zSd; decide
    have hz := (zhs_in (h6.1 (d + 1) (by omega)).2)
    have hcl : zKi g (z1 o) mX1_goOn [zA g 36, zA g 24] M1 (fun r N => r = 1 ∧ N 36 1 = ((d + 1 : Nat) : Int) ∧ N 36 2 = ((u - 1 : Nat) : Int) ∧ zsame M1 N 24 (p (d + 1)) ∧ ∀ b : Nat, b ≠ 36 → b < 24 ∨ 27 < b → N b = M1 b) := by
      refine zki_of rfl (Nat.le_of_ble_eq_true rfl) (SX1_goOn_0 h24 ⟨by omega, fun _ N2 e2 => ?_, fun h => by omega⟩)
      have e36 : zu N2 36 1 (N2 36 1 + 1) 36 1 = ((d + 1 : Nat) : Int) := by rw [zu_at, e2, zu_row, if_neg (by decide), h1]; omega
      have ob : ∀ b : Nat, b ≠ 36 → zu N2 36 1 (N2 36 1 + 1) b = M1 b := fun b hb => by rw [zu_other hb, e2, zu_other hb]
      have e362 : zu N2 36 1 (N2 36 1 + 1) 36 2 = ((u - 1 : Nat) : Int) := by rw [zu_row, if_neg (by decide), e2, zu_at, h3]; omega
      have z36 := zsd_36 hz.2.2
      rw [e36]
      refine ⟨by omega, p (d + 1), ?_, hz.2.2, _, c_copy h24 hz.2.2, fun M8 hq => ?_⟩
      · rw [ob 37 (by decide)]; exact (h6.1 (d + 1) (by omega)).1
      · obtain ⟨s1, s2⟩ := hq
        refine ⟨rfl, by rw [s2 36 (by decide) (by decide) (by decide) (by decide)]; exact e36, by rw [s2 36 (by decide) (by decide) (by decide) (by decide)]; exact e362, s1.pre (ob _ (by omega)) (ob _ (by omega)) (ob _ (by omega)) (ob _ (by omega)), fun b hb hb2 => by rw [s2 b (by omega) (by omega) (by omega) (by omega), ob b hb]⟩
    refine ⟨_, fun r N => r = 1 ∧ N 1 28 = ((d + 1 : Nat) : Int) ∧ N 1 29 = ((u - 1 : Nat) : Int) ∧ (∀ i : Int, 0 ≤ i → i < 198 → N 12 (198 * (d : Int) + i) = M2 10 i ∧ N 10 i = M2 12 (198 * (d : Int) + i)) ∧ (∀ j : Int, j < 198 * (d : Int) ∨ 198 * (d : Int) + 198 ≤ j → N 12 j = M2 12 j) ∧ (∀ b : Nat, b ≠ 1 → b ≠ 10 → b ≠ 12 → N b = M2 b) ∧ ∀ i : Int, i ≠ 28 → i ≠ 29 → N 1 i = M2 1 i, zki_of rfl (Nat.le_of_ble_eq_true rfl) (SX9_redo_0 ⟨_, hcl, fun r N h => ⟨Or.inr h.1, h⟩⟩), zki_of rfl (Nat.le_of_ble_eq_true rfl) (SX10_redo_0 ⟨by omega, fun _ => ?_, fun h => by omega⟩), fun r N1 r' N2 q q' => ?_⟩
    · have e28 : zu M2 1 29 (M2 1 29 - 1) 1 28 = d := by rw [zu_row, if_neg (by decide), h2]
      have e29 : zu M2 1 29 (M2 1 29 - 1) 1 29 = ((u - 1 : Nat) : Int) := by rw [zu_at, h4]; omega
      have ob : ∀ b : Nat, b ≠ 1 → zu M2 1 29 (M2 1 29 - 1) b = M2 b := fun b hb => by rw [zu_other hb]
      rw [e28]
      refine ⟨_, c_exchanges (by omega), fun M6 hq => ?_⟩
      obtain ⟨s1, s2, s3⟩ := hq
      have e1 : M6 1 = zu M2 1 29 (M2 1 29 - 1) 1 := s3 1 (by decide) (by decide)
      refine ⟨rfl, by rw [zu_at, e1, e28]; rfl, by rw [zu_row, if_neg (by decide), e1]; exact e29, fun i p q => by rw [zu_other (by decide), zu_other (by decide), ← ob 10 (by decide), ← ob 12 (by decide)]; exact s1 i p q, fun j hj => by rw [zu_other (by decide), ← ob 12 (by decide)]; exact s2 j hj, fun b a b' c => by rw [zu_other a, s3 b b' c, ob b a], fun i a b => by rw [zu_row, if_neg a, e1, zu_row, if_neg b]⟩
    · obtain ⟨q1, q2, q3, q4, q5⟩ := q
      obtain ⟨p1, p2, p3, p4, p5, p6, p7⟩ := q'
      have eqn : eqr (rwk (M2 12) d) (N2 10) := fun i a b => (p4 i a b).2.symm
      have eqo : eqr (M2 10) (rwk (N2 12) d) := fun i a b => (p4 i a b).1.symm
      have hr := hist_rows (N1 := N1) h6 (fun b a c => q5 b (by omega) (by omega))
      have hG := hL.1
      have c0 := h8 d (by omega) (by omega)
      refine ⟨by omega, C, R, hJ.acted hk (fun b hb => q5 b (by omega) (by omega)) ((c0.1.same q4).of eqn) ((c0.2.of hG eqn).mono (by omega) (by omega)) ⟨p, d + 1, u - 1, q2, p2, q3, p3, by omega, ⟨fun i hi => ⟨by rw [q5 37 (by decide) (by decide)]; exact (h6.1 i hi).1, (h6.1 i hi).2⟩, h6.2⟩, fun i hi => ?_, fun i a b => ?_, ?_⟩ (fun b hb => p6 b (by omega) (by omega) (by omega)) (fun i hi => p7 i (by omega) (by omega))⟩
      · by_cases e : i = d
        · rw [e]
          exact ⟨(hr d (by omega) _ h9).of eqo, hJ.2.2.1.2.of hG eqo⟩
        · have c1 := h7 i (by omega)
          have eq : eqr (rwk (M2 12) i) (rwk (N2 12) i) := fun j a b => (p5 (198 * i + j) (by omega)).symm
          exact ⟨(hr i (by omega) _ c1.1).of eq, c1.2.of hG eq⟩
      · have c1 := h8 i (by omega) (by omega)
        have eq : eqr (rwk (M2 12) i) (rwk (N2 12) i) := fun j a b => (p5 (198 * i + j) (by omega)).symm
        exact ⟨(hr (i + 1) (by omega) _ c1.1).of eq, c1.2.of hG eq⟩
      · exact (hr (d + 1) (by omega) _ c0.1).of eqn
end AD
