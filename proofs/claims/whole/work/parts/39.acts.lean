section AC
variable {g g' : zG} {o o' : Bool} {M M' N A1 A2 M1 M2 N1 N2 : zM} {k C R c x v B T x1 x2 : Int} {d e t u : Nat} {f : Int → Int}
theorem Jt.acted (hJ : Jt k C R M1 M2) (hk : k < 1000) (n1 : ∀ b : Nat, (b = 1 ∨ b = 2 ∨ b = 3 ∨ b = 7 ∨ (14 ≤ b ∧ b ≤ 23) ∨ (122 ≤ b ∧ b ≤ 125) ∨ (135 ≤ b ∧ b ≤ 148)) → N1 b = M1 b)
    (hn : rEq N1 24 (N2 10)) (ho : rOK C R (3000 + 600 * (k + 1)) (600 * (k + 1)) (N2 10)) (hh : jH (3000 + 600 * k) (600 * k) C R N1 N2)
    (n2 : ∀ b : Nat, (2 ≤ b ∧ b ≤ 5) ∨ b = 7 ∨ b = 8 ∨ (16 ≤ b ∧ b ≤ 23) → N2 b = M2 b) (i2 : ∀ i : Int, i = 1 ∨ i = 9 ∨ i = 10 ∨ i = 26 ∨ i = 42 ∨ i = 43 → N2 1 i = M2 1 i) : Jt (k + 1) C R N1 N2 := by
  have h0 := hJ
  obtain ⟨a0, a1, a2, a3, a4, a5, a6, a7, a8⟩ := hJ
  exact h0.next hk (a1.fr (fun b p q => n1 b (by omega)) (fun b p q => n2 b (by omega))) ⟨hn, ho⟩ (a3.fr (fun b p q => n1 b (by omega)) (n2 3 (by omega)) (n2 7 (by omega)) (n2 8 (by omega)))
    (hh.fr (fun _ _ _ => rfl) rfl rfl rfl rfl (by omega) (by omega)) (a5.fr (fun b p q => n1 b (by omega)) (n2 16 (by omega)) (n2 17 (by omega)) (by omega) (by omega))
    (a6.fr (fun b p q => n1 b (by omega)) (fun b p q => n2 b (by omega)) (fun b p q => n2 b (by omega)) (n2 7 (by omega)) (n2 8 (by omega)) (i2 42 (by omega))) (a7.fr (by rw [n1 2 (by omega)]) (n1 3 (by omega)) (n2 2 (by omega)) (i2 1 (by omega))) (a8.fr (by rw [n1 1 (by omega)]) (by rw [n1 7 (by omega)]) (by rw [n1 7 (by omega)]) (i2 43 (by omega)) (i2 9 (by omega)) (i2 10 (by omega)) (i2 26 (by omega)))
theorem acR.of (h : acR M N) (e12 : N2 12 = N 12) (e28 : N2 1 28 = N 1 28) (e29 : N2 1 29 = N 1 29) : acR M N2 := by unfold acR; rw [e12, e28, e29]; exact h
theorem Jt.acts (hJ : Jt k C R M1 M2) : ∃ d : Nat, M2 1 28 = d ∧ d ≤ 20 := by
  obtain ⟨p, d, u, h1, h2, h3, h4, h5, -⟩ := hJ.2.2.2.2.1
  exact ⟨d, h2, by omega⟩
theorem Jt.add (hJ : Jt k C R M1 M2) (hA : ∀ b : Nat, 36 ≤ b → b ≤ 121 → A1 b = M1 b) : ∃ q : zM → Prop, zKv g (z1 o) mX1_add [zA g 36, zA g 24] A1 q ∧ ∀ N1 : zM, q N1 → (∀ b : Nat, b < 36 ∨ 121 < b → N1 b = A1 b) ∧ ∀ N2 : zM, rEq A1 24 (N2 10) → acR M2 N2 → jH (3000 + 600 * k) (600 * k) C R N1 N2 :=
  hJ.2.2.2.2.1.act hJ.2.2.1.2 hJ.lr.1.1 hA
theorem p_blow (hJ : Jt k C R M1 M2) (hk : k < 1000) (h1 : -2147483648 ≤ x1 ∧ x1 ≤ 2147483647) : zE g g' o o' mX9_blow mX10_blow [zI x1] k M1 M2 := by
  by_cases hx : 1 ≤ x1 ∧ x1 ≤ 500
  · obtain ⟨n, hn⟩ := znn (show 0 ≤ x1 by omega)
    subst hn
    obtain ⟨hL, hR⟩ := hJ.lr
    have hgn := geo_n hL.1
    have hk0 := hJ.1
    obtain ⟨w0, w1, w2, w3, w4⟩ := hJ.sw
    have hr := hJ.er
    have r0 : M1 27 0 = M2 10 192 := hr 0 (by decide) (by decide)
    have r1 : M1 27 1 = M2 10 193 := hr 1 (by decide) (by decide)
    have r2 : M1 27 2 = M2 10 194 := hr 2 (by decide) (by decide)
    have r3 : M1 27 3 = M2 10 195 := hr 3 (by decide) (by decide)
    have hS : SandOK M1 24 (3000 + 600 * k) (600 * k) := hJ.2.2.1.1.sd hJ.2.2.1.2
    have hb := c_blow (g := g) (o := o) (show zSt 32 24 by unfold zSt; decide) n (by omega) hL hS (by omega) (by omega)
    obtain ⟨d, hd, hd2⟩ := hJ.acts
    refine ⟨fun r N1 => r = blwN C R (M1 14 3) (wnd M1) (M1 26) (M1 27 0) (M1 27 1) (M1 27 2) (M1 27 3) n (zgx M1 32 24) ∧ ∃ A1 : zM, (zgx A1 32 24 = blwS C R (M1 14 3) (wnd M1) (M1 26) (M1 27 0) (M1 27 1) (M1 27 2) (M1 27 3) n (zgx M1 32 24) ∧ zfr M1 A1 32 24) ∧ (∀ b : Nat, b < 36 ∨ 121 < b → N1 b = A1 b) ∧ ∀ N2 : zM, rEq A1 24 (N2 10) → acR M2 N2 → jH (3000 + 600 * k) (600 * k) C R N1 N2,
      fun r N2 => r = blwN C R (M1 14 3) (wnd M1) (M1 26) (M1 27 0) (M1 27 1) (M1 27 2) (M1 27 3) n ((M1 25, 0, fun _ => 0), 0, M1 24 3, M1 24 4) ∧ acR M2 N2 ∧ (∀ b : Nat, b ≠ 1 → b ≠ 10 → b ≠ 11 → b ≠ 12 → N2 b = M2 b) ∧ (∀ i : Int, i ≠ 23 → i ≠ 24 → i ≠ 25 → i ≠ 28 → i ≠ 29 → N2 1 i = M2 1 i) ∧ (∀ i : Int, 0 ≤ i → i < 96 → N2 10 i = (blwS C R (M1 14 3) (wnd M1) (M1 26) (M1 27 0) (M1 27 1) (M1 27 2) (M1 27 3) n ((M1 25, 0, fun _ => 0), 0, M1 24 3, M1 24 4)).1.1 i) ∧ N2 10 196 = (blwS C R (M1 14 3) (wnd M1) (M1 26) (M1 27 0) (M1 27 1) (M1 27 2) (M1 27 3) n ((M1 25, 0, fun _ => 0), 0, M1 24 3, M1 24 4)).2.2.1 ∧ N2 10 197 = (blwS C R (M1 14 3) (wnd M1) (M1 26) (M1 27 0) (M1 27 1) (M1 27 2) (M1 27 3) n ((M1 25, 0, fun _ => 0), 0, M1 24 3, M1 24 4)).2.2.2 ∧ (∀ i : Int, 96 ≤ i → i < 196 → N2 10 i = M2 10 i) ∧ ∃ A2 : zM, RefOK A2 (3000 + 600 * k + n) (600 * k + n) ∧ eqr (A2 11) (N2 10),
      zki_of rfl (Nat.le_of_ble_eq_true rfl) (SX9_blow_0 ⟨by omega, fun h => by omega, fun _ => ⟨fun _ => ⟨_, hb, fun r A1 hq => ?_⟩, fun h => by omega⟩⟩), zki_of rfl (Nat.le_of_ble_eq_true rfl) (SX10_blow_0 ⟨by omega, fun _ => ⟨_, c_act hd hd2, fun A2 ha => ⟨_, c_goesOn, fun A3 hg => ?_⟩⟩, fun h => absurd hx h⟩), fun r N1 r' N2 q q' => ?_⟩
    · obtain ⟨q1, q2, q3, q4⟩ := hq
      obtain ⟨q, hc, hq⟩ := hJ.add (g := g) (o := o) (A1 := A1) (fun b p q => q3 b (by omega) (by omega) (by omega) (by omega))
      exact ⟨q, hc, fun N1 h => ⟨q1, A1, ⟨q2, q3⟩, hq N1 h⟩⟩
    · obtain ⟨a1, a2, a3⟩ := ha
      obtain ⟨g1, g2, g3, g4, g5, g6⟩ := hg
      have e10 : A2 10 = M2 10 := a2 10 (by decide) (by decide)
      rw [e10] at g1
      have b3 : ∀ b : Nat, b ≠ 1 → b ≠ 11 → b ≠ 12 → A3 b = M2 b := fun b p q r => by rw [g5 b p q, a2 b p r]
      have hR3 : zRf A3 C R := hR.of (b3 3 (by decide) (by decide) (by decide)) (b3 4 (by decide) (by decide) (by decide)) (b3 5 (by decide) (by decide) (by decide))
      have hO3 : RefOK A3 (3000 + 600 * k) (600 * k) := hJ.2.2.1.2.rf g1
      have eW : wnr A3 = wnd M1 := by rw [wnr_of (b3 3 (by decide) (by decide) (by decide)) (b3 4 (by decide) (by decide) (by decide)) (b3 5 (by decide) (by decide) (by decide)), hJ.wq]
      have l26 : A3 1 26 = -1 := by rw [g6 26 (by decide) (by decide) (by decide), a3 26 (by decide) (by decide)]; exact hJ.2.2.2.2.2.2.2.2.2.2.2.2
      have hrep : repx A3 ((M1 25, 0, fun _ => 0), 0, M1 24 3, M1 24 4) := ⟨⟨fun i p q => by rw [← g1 i p (by omega)]; exact (hJ.eh i p q).symm, g3, Or.inl l26⟩, g2, by rw [← g1 196 (by decide) (by decide)]; exact hJ.es.1.symm, by rw [← g1 197 (by decide) (by decide)]; exact hJ.es.2.symm⟩
      have hbl := c_blows (g := g') (o := o') (G := M1 26) (wd := wnd M1) n (by omega) hR3 hO3 (by omega) (by omega) (by rw [l26]; decide) hrep (fun i p q => by show A3 11 (96 + i) = _; rw [← g1 _ (by omega) (by omega)]; exact (hJ.eg i p q).symm) (fun t _ => by rw [eW])
      rw [show A3 3 5 = M1 14 3 by rw [b3 3 (by decide) (by decide) (by decide)]; exact w3, ← g1 192 (by decide) (by decide), ← g1 193 (by decide) (by decide), ← g1 194 (by decide) (by decide), ← g1 195 (by decide) (by decide), ← r0, ← r1, ← r2, ← r3] at hbl
      refine ⟨_, hbl, fun r16 M17 hq => ⟨_, c_keepsRow, fun M22 hk2 => ?_⟩⟩
      obtain ⟨q1, ⟨⟨q2, q3, q4⟩, q5, q6, q7⟩, ⟨f1, f2, f3⟩, q8⟩ := hq
      obtain ⟨k1, k2⟩ := hk2
      refine ⟨q1, a1.of (by rw [k2 12 (by decide), f1 12 (by decide) (by decide), g5 12 (by decide) (by decide)]) (by rw [k2 1 (by decide), f2 28 (by decide) (by decide) (by decide), g6 28 (by decide) (by decide) (by decide)]) (by rw [k2 1 (by decide), f2 29 (by decide) (by decide) (by decide), g6 29 (by decide) (by decide) (by decide)]), fun b p q r s => by rw [k2 b q, f1 b p r, b3 b p r s], fun i a b c d e => by rw [k2 1 (by decide), f2 i a b c, g6 i a b c, a3 i d e], fun i p q => by rw [← k1 i p (by omega)]; exact q2 i p q, by rw [← k1 196 (by decide) (by decide)]; exact q6, by rw [← k1 197 (by decide) (by decide)]; exact q7, fun i p q => by rw [← k1 i (by omega) (by omega), f3 i (by omega) (by omega) (by omega), ← g1 i (by omega) (by omega)], M17, q8, k1⟩
    · obtain ⟨q1, A1, ⟨q2, q3⟩, q4, q5⟩ := q
      obtain ⟨p1, p2, p3, p4, p5, p6, p7, p8, A2, p9, p10⟩ := q'
      have be := blw_eq (C := C) (R := R) (S := M1 14 3) (wd := wnd M1) (G := M1 26) (G' := M1 26) (hop := M1 27 0) (sh := M1 27 1) (st := M1 27 2) (bt := M1 27 3) (x := zgx M1 32 24) (y := ((M1 25, 0, fun _ => 0), 0, M1 24 3, M1 24 4)) hL.1 n ⟨eq96.rf, rfl⟩ eq96.rf
      rw [← q2] at be
      have hrq : rEq A1 24 (N2 10) := by
        refine ⟨fun i p q => ?_, fun i p q => ?_, fun i p q => ?_, ?_, ?_⟩
        · rw [p5 i p q]; exact be.2.1 i p q
        · rw [p8 _ (by omega) (by omega), q3 26 (by decide) (by decide) (by decide) (by decide)]; exact hJ.eg i p q
        · rw [p8 _ (by omega) (by omega), q3 27 (by decide) (by decide) (by decide) (by decide)]; exact hJ.er i p q
        · rw [p6]; exact congrArg (fun z : Int × Int => z.1) be.2.2
        · rw [p7]; exact congrArg (fun z : Int × Int => z.2) be.2.2
      have hro : rOK C R (3000 + 600 * (k + 1)) (600 * (k + 1)) (N2 10) := by
        obtain ⟨u1, u2, u3, u4, u5, u6, u7, u8⟩ := p9
        have hz := hJ.2.2.1.2.2.2.2.2.2.2.2.2
        refine ⟨fun i p q => by rw [← p10 i p (by omega)]; have := u1 i p q; omega, fun i p q => by rw [← p10 _ (by omega) (by omega)]; exact u2 i p q, by rw [← p10 192 (by decide) (by decide)]; exact u3, by rw [← p10 193 (by decide) (by decide)]; exact u4, by rw [← p10 194 (by decide) (by decide)]; exact u5, by rw [← p10 195 (by decide) (by decide)]; exact u6, by rw [← p10 196 (by decide) (by decide)]; exact u7, by rw [← p10 197 (by decide) (by decide)]; omega, fun i p q => ?_⟩
        rw [p5 i (by omega) q, blw_out hL.1 n p]
        show M1 25 i = 0
        rw [hJ.eh i (by omega) q]; exact hz i p q
      refine ⟨by rw [q1, p1, be.1], C, R, hJ.acted hk (fun b hb => by rw [q4 b (by omega), q3 b (by omega) (by omega) (by omega) (by omega)]) ?_ hro (q5 N2 hrq p2) (fun b hb => p3 b (by omega) (by omega) (by omega) (by omega)) (fun i hi => p4 i (by omega) (by omega) (by omega) (by omega) (by omega))⟩
      exact hrq.fr (q4 24 (by decide)) (q4 25 (by decide)) (q4 26 (by decide)) (q4 27 (by decide))
  · exact zE_of (A := -1) hJ hk (zki_of rfl (Nat.le_of_ble_eq_true rfl) (SX9_blow_0 ⟨h1, fun _ => ⟨rfl, fr1.rf⟩, fun _ => ⟨fun h => by omega, fun _ => ⟨rfl, fr1.rf⟩⟩⟩)) (zki_of rfl (Nat.le_of_ble_eq_true rfl) (SX10_blow_0 ⟨h1, fun h => absurd h hx, fun _ => ⟨rfl, fr2.rf⟩⟩))
theorem Jt.hts (hJ : Jt k C R M1 M2) {H : Int → Int} (e24 : A1 24 = M1 24) (e25 : A1 25 = H) (e26 : A1 26 = M1 26) (e27 : A1 27 = M1 27) (h : ∀ i : Int, 0 ≤ i → i < 96 → N2 10 i = H i) (h' : ∀ i : Int, 96 ≤ i → i < 198 → N2 10 i = M2 10 i) (hB : BdB (3000 + 600 * (k + 1)) H) (hz : ∀ i : Int, C * R ≤ i → i < 96 → H i = 0) : rEq A1 24 (N2 10) ∧ rOK C R (3000 + 600 * (k + 1)) (600 * (k + 1)) (N2 10) := by
  have hgn := geo_n hJ.lr.1.1
  have hk0 := hJ.1
  refine ⟨⟨fun i p q => by rw [h i p q]; show A1 25 i = _; rw [e25], fun i p q => by rw [h' _ (by omega) (by omega)]; show A1 26 i = _; rw [e26]; exact hJ.eg i p q, fun i p q => by rw [h' _ (by omega) (by omega)]; show A1 27 i = _; rw [e27]; exact hJ.er i p q, by rw [e24, h' 196 (by decide) (by decide)]; exact hJ.es.1, by rw [e24, h' 197 (by decide) (by decide)]; exact hJ.es.2⟩, ?_⟩
  obtain ⟨u1, u2, u3, u4, u5, u6, u7, u8, u9⟩ := hJ.2.2.1.2
  exact ⟨fun i p q => by rw [h i p q]; exact hB i p q, fun i p q => by rw [h' _ (by omega) (by omega)]; exact u2 i p q, by rw [h' 192 (by decide) (by decide)]; exact u3, by rw [h' 193 (by decide) (by decide)]; exact u4, by rw [h' 194 (by decide) (by decide)]; exact u5, by rw [h' 195 (by decide) (by decide)]; exact u6, by rw [h' 196 (by decide) (by decide)]; exact u7, by rw [h' 197 (by decide) (by decide)]; omega, fun i p q => by rw [h i (by omega) q]; exact hz i p q⟩
/-- act, goesOn: the reference is ready -/
theorem Jt.ready (hJ : Jt k C R M1 M2) {A3 : zM} (ha : acR M2 A2 ∧ (∀ b : Nat, b ≠ 1 → b ≠ 12 → A2 b = M2 b) ∧ ∀ i : Int, i ≠ 28 → i ≠ 29 → A2 1 i = M2 1 i) (hg : eqr (A2 10) (A3 11) ∧ A3 1 23 = 0 ∧ A3 1 24 = 0 ∧ A3 1 25 = 0 ∧ (∀ b : Nat, b ≠ 1 → b ≠ 11 → A3 b = A2 b) ∧ ∀ i : Int, i ≠ 23 → i ≠ 24 → i ≠ 25 → A3 1 i = A2 1 i) :
    eqr (M2 10) (A3 11) ∧ zRf A3 C R ∧ RefOK A3 (3000 + 600 * k) (600 * k) ∧ A3 1 24 = 0 ∧ A3 1 26 = -1 ∧ acR M2 A3 ∧ (∀ b : Nat, b ≠ 1 → b ≠ 11 → b ≠ 12 → A3 b = M2 b) ∧ (∀ i : Int, i ≠ 23 → i ≠ 24 → i ≠ 25 → i ≠ 28 → i ≠ 29 → A3 1 i = M2 1 i) ∧ A3 3 5 = M1 14 3 := by
  obtain ⟨a1, a2, a3⟩ := ha
  obtain ⟨g1, g2, g3, g4, g5, g6⟩ := hg
  rw [a2 10 (by decide) (by decide)] at g1
  have b3 : ∀ b : Nat, b ≠ 1 → b ≠ 11 → b ≠ 12 → A3 b = M2 b := fun b p q r => by rw [g5 b p q, a2 b p r]
  refine ⟨g1, hJ.lr.2.of (b3 3 (by decide) (by decide) (by decide)) (b3 4 (by decide) (by decide) (by decide)) (b3 5 (by decide) (by decide) (by decide)), hJ.2.2.1.2.rf g1, g3, ?_, a1.of (g5 12 (by decide) (by decide)) (g6 28 (by decide) (by decide) (by decide)) (g6 29 (by decide) (by decide) (by decide)), b3, fun i a b c d e => by rw [g6 i a b c, a3 i d e], by rw [b3 3 (by decide) (by decide) (by decide)]; exact hJ.sw.2.2.2.1⟩
  rw [g6 26 (by decide) (by decide) (by decide), a3 26 (by decide) (by decide)]; exact hJ.2.2.2.2.2.2.2.2.2.2.2.2
theorem p_take (hJ : Jt k C R M1 M2) (hk : k < 1000) (h1 : -2147483648 ≤ x1 ∧ x1 ≤ 2147483647) : zE g g' o o' mX9_take mX10_take [zI x1] k M1 M2 := by
  obtain ⟨hL, hR⟩ := hJ.lr
  have hgn := geo_n hL.1
  have hk0 := hJ.1
  by_cases hc : 0 ≤ x1 ∧ x1 < C * R
  · have b0 := hJ.2.2.1.2.1 x1 hc.1 (by omega)
    have eh := hJ.eh x1 hc.1 (by omega)
    by_cases hx : M2 10 x1 = 0
    · exact zE_of (A := -1) hJ hk (zki_of rfl (Nat.le_of_ble_eq_true rfl) (SX9_take_0 (C := C) (R := R) ⟨h1, hL, fun h => absurd hc h, fun _ => ⟨by omega, by omega, fun h => by omega, fun _ => ⟨rfl, fr1.rf⟩⟩⟩)) (zki_of rfl (Nat.le_of_ble_eq_true rfl) (SX10_take_0 (C := C) (R := R) ⟨hR, h1, fun h => absurd hc h, fun _ => ⟨by omega, by omega, fun h => absurd hx h, fun _ => ⟨rfl, fr2.rf⟩⟩⟩))
    · have hb1 : BdB (3000 + 600 * k) (M1 25) := fun i p q => by rw [hJ.eh i p q]; exact hJ.2.2.1.2.1 i p q
      have hU : BdB (3000 + 600 * k) (up (M1 25) x1 (M1 25 x1 - 1)) := up_bd hb1 (by omega)
      have hS := hL.2.2.2.2.1
      have h32 : zSt 32 24 := by unfold zSt; decide
      have hb := c_lift (g := g) (o := o) h32 hL hc (hU.le (by omega))
      obtain ⟨d, hd, hd2⟩ := hJ.acts
      refine ⟨fun r N1 => r = N1 25 x1 ∧ (∀ b : Nat, b < 36 ∨ 121 < b → N1 b = zput M1 32 24 (flz C R (M1 14 3) 96 (up (M1 25) x1 (M1 25 x1 - 1), M1 32 4, M1 33) x1) b) ∧ ∀ N2 : zM, rEq (zput M1 32 24 (flz C R (M1 14 3) 96 (up (M1 25) x1 (M1 25 x1 - 1), M1 32 4, M1 33) x1)) 24 (N2 10) → acR M2 N2 → jH (3000 + 600 * k) (600 * k) C R N1 N2,
        fun r N2 => r = N2 10 x1 ∧ acR M2 N2 ∧ (∀ b : Nat, b ≠ 1 → b ≠ 10 → b ≠ 11 → b ≠ 12 → N2 b = M2 b) ∧ (∀ i : Int, i ≠ 23 → i ≠ 24 → i ≠ 25 → i ≠ 28 → i ≠ 29 → N2 1 i = M2 1 i) ∧ (∀ i : Int, 0 ≤ i → i < 96 → N2 10 i = (flz C R (M1 14 3) 96 (up (M1 25) x1 (M1 25 x1 - 1), 0, fun _ => 0) x1).1 i) ∧ (∀ i : Int, 96 ≤ i → i < 198 → N2 10 i = M2 10 i),
        zki_of rfl (Nat.le_of_ble_eq_true rfl) (SX9_take_0 (C := C) (R := R) ⟨h1, hL, fun h => absurd hc h, fun _ => ⟨by omega, by omega, fun _ => ⟨_, hb, fun A1 hq => ?_⟩, fun h => by omega⟩⟩), zki_of rfl (Nat.le_of_ble_eq_true rfl) (SX10_take_0 (C := C) (R := R) ⟨hR, h1, fun h => absurd hc h, fun _ => ⟨by omega, by omega, fun _ => ⟨_, c_act hd hd2, fun A2 ha => ⟨_, c_goesOn, fun A3 hg => ?_⟩⟩, fun h => absurd h hx⟩⟩), fun r N1 r' N2 q q' => ?_⟩
      · subst hq
        obtain ⟨q, hc, hq⟩ := hJ.add (g := g) (o := o) (A1 := zput M1 32 24 (flz C R (M1 14 3) 96 (up (M1 25) x1 (M1 25 x1 - 1), M1 32 4, M1 33) x1)) (fun b p q => zput_o (by omega) (by omega) (by omega))
        exact ⟨q, hc, fun N1 h => ⟨rfl, hq N1 h⟩⟩
      · obtain ⟨g1, g2, g3, g4, g5, g6, g7, g8, g9⟩ := hJ.ready ha hg
        have e11 : ∀ i : Int, 0 ≤ i → i < 96 → A3 11 i = M1 25 i := fun i p q => by rw [← g1 i p (by omega)]; exact (hJ.eh i p q).symm
        have ob : ∀ b : Nat, b ≠ 11 → zu A3 11 x1 (A3 11 x1 - 1) b = A3 b := fun b p => zu_other p
        have hrep : repz (zu A3 11 x1 (A3 11 x1 - 1)) (up (M1 25) x1 (M1 25 x1 - 1), 0, fun _ => 0) := by
          refine ⟨fun i p q => ?_, by rw [ob 1 (by decide)]; exact g4, Or.inl (by rw [ob 1 (by decide)]; exact g5)⟩
          rw [zu_row, e11 i p q, e11 x1 hc.1 (by omega)]; rfl
        have hfl := c_fills (g := g') (o := o') (g2.of (ob 3 (by decide)) (ob 4 (by decide)) (ob 5 (by decide))) hc (by rw [ob 1 (by decide), g5]; decide) hrep (hU.le (by omega))
        rw [ob 3 (by decide), g9] at hfl
        refine ⟨_, hfl, fun M20 hq => ⟨_, c_keepsRow, fun M25 hk2 => ?_⟩⟩
        obtain ⟨⟨q1, q2, q3⟩, f1, f2, f3⟩ := hq
        obtain ⟨k1, k2⟩ := hk2
        refine ⟨rfl, g6.of (by rw [k2 12 (by decide), f1 12 (by decide) (by decide), ob 12 (by decide)]) (by rw [k2 1 (by decide), f2 28 (by decide) (by decide), ob 1 (by decide)]) (by rw [k2 1 (by decide), f2 29 (by decide) (by decide), ob 1 (by decide)]), fun b p q r s => by rw [k2 b q, f1 b p r, ob b r, g7 b p r s], fun i a b c d e => by rw [k2 1 (by decide), f2 i b c, ob 1 (by decide), g8 i a b c d e], fun i p q => by rw [← k1 i p (by omega)]; exact q1 i p q, fun i p q => by rw [← k1 i (by omega) q, f3 i p, zu_row, if_neg (by omega), ← g1 i (by omega) q]⟩
      · obtain ⟨q1, q4, q5⟩ := q
        obtain ⟨p1, p2, p3, p4, p5, p6⟩ := q'
        have fe := flz_eq (S := M1 14 3) (z := (up (M1 25) x1 (M1 25 x1 - 1), M1 32 4, M1 33)) (z' := (up (M1 25) x1 (M1 25 x1 - 1), 0, fun _ => 0)) hL.1 96 hc eq96.rf
        have hh := hJ.hts (A1 := zput M1 32 24 (flz C R (M1 14 3) 96 (up (M1 25) x1 (M1 25 x1 - 1), M1 32 4, M1 33) x1)) (N2 := N2) (zput_o (by decide) (by decide) (by decide)) (zput_h h32) (zput_o (by decide) (by decide) (by decide)) (zput_o (by decide) (by decide) (by decide)) (fun i p q => by rw [p5 i p q]; exact (fe i p q).symm) p6 ((flz_bd hL.1 hS.1 96 _ x1 hc hU).le (by omega)) (fun i p q => by rw [flz_out hL.1 96 hc p]; show up _ _ _ i = _; rw [up_ne (by omega), hJ.eh i (by omega) q]; exact hJ.2.2.1.2.2.2.2.2.2.2.2.2 i p q)
        have hfr : rEq N1 24 (N2 10) := hh.1.fr (q4 24 (by decide)) (q4 25 (by decide)) (q4 26 (by decide)) (q4 27 (by decide))
        refine ⟨by rw [q1, p1]; exact hfr.1 x1 hc.1 (by omega), C, R, hJ.acted hk (fun b hb => by rw [q4 b (by omega)]; exact zput_o (by omega) (by omega) (by omega)) hfr hh.2 (q5 N2 hh.1 p2) (fun b hb => p3 b (by omega) (by omega) (by omega) (by omega)) (fun i hi => p4 i (by omega) (by omega) (by omega) (by omega) (by omega))⟩
  · exact zE_of (A := -1) hJ hk (zki_of rfl (Nat.le_of_ble_eq_true rfl) (SX9_take_0 (C := C) (R := R) ⟨h1, hL, fun _ => ⟨rfl, fr1.rf⟩, fun h => absurd h hc⟩)) (zki_of rfl (Nat.le_of_ble_eq_true rfl) (SX10_take_0 (C := C) (R := R) ⟨hR, h1, fun _ => ⟨rfl, fr2.rf⟩, fun h => absurd h hc⟩))
theorem p_put (hJ : Jt k C R M1 M2) (hk : k < 1000) (h1 : -2147483648 ≤ x1 ∧ x1 ≤ 2147483647) (h2 : -2147483648 ≤ x2 ∧ x2 ≤ 2147483647) : zE g g' o o' mX9_put mX10_put [zI x1, zI x2] k M1 M2 := by
  obtain ⟨hL, hR⟩ := hJ.lr
  have hgn := geo_n hL.1
  have hk0 := hJ.1
  by_cases hc : 0 ≤ x1 ∧ x1 < C * R
  · by_cases hx : 1 ≤ x2 ∧ x2 ≤ 50
    · obtain ⟨n, hn⟩ := znn (show 0 ≤ x2 by omega)
      subst hn
      have hb1 : BdB (3000 + 600 * k) (M1 25) := fun i p q => by rw [hJ.eh i p q]; exact hJ.2.2.1.2.1 i p q
      have hS := hL.2.2.2.2.1
      have h32 : zSt 32 24 := by unfold zSt; decide
      obtain ⟨d, hd, hd2⟩ := hJ.acts
      have hz0 : zput M1 32 24 (M1 25, M1 32 4, M1 33) = M1 := zput_get h32
      refine ⟨fun r N1 => r = N1 25 x1 ∧ (∀ b : Nat, b < 36 ∨ 121 < b → N1 b = zput M1 32 24 (ptz C R (M1 14 3) x1 n (M1 25, M1 32 4, M1 33)) b) ∧ ∀ N2 : zM, rEq (zput M1 32 24 (ptz C R (M1 14 3) x1 n (M1 25, M1 32 4, M1 33))) 24 (N2 10) → acR M2 N2 → jH (3000 + 600 * k) (600 * k) C R N1 N2,
        fun r N2 => r = N2 10 x1 ∧ acR M2 N2 ∧ (∀ b : Nat, b ≠ 1 → b ≠ 10 → b ≠ 11 → b ≠ 12 → N2 b = M2 b) ∧ (∀ i : Int, i ≠ 23 → i ≠ 24 → i ≠ 25 → i ≠ 28 → i ≠ 29 → N2 1 i = M2 1 i) ∧ (∀ i : Int, 0 ≤ i → i < 96 → N2 10 i = (ptz C R (M1 14 3) x1 n (M1 25, 0, fun _ => 0)).1 i) ∧ (∀ i : Int, 96 ≤ i → i < 198 → N2 10 i = M2 10 i),
        zki_of rfl (Nat.le_of_ble_eq_true rfl) (SX9_put_0 (C := C) (R := R) ⟨h1, hL, fun h => absurd hc h, fun _ => ⟨by omega, fun h => by omega, fun _ => ⟨fun _ => ?_, fun h => by omega⟩⟩⟩), zki_of rfl (Nat.le_of_ble_eq_true rfl) (SX10_put_0 (C := C) (R := R) ⟨hR, h1, fun h => absurd hc h, fun _ => ⟨by omega, fun _ => ⟨_, c_act hd hd2, fun A2 ha => ⟨_, c_goesOn, fun A3 hg => ?_⟩⟩, fun h => absurd hx h⟩⟩), fun r N1 r' N2 q q' => ?_⟩
      · suffices hs : ∀ (j : Nat) (i : Int) (z : Hz), 0 ≤ i → i + j = n → BdB (3000 + 600 * k + i) z.1 → ptz C R (M1 14 3) x1 n (M1 25, M1 32 4, M1 33) = ptz C R (M1 14 3) x1 j z → zT g (z1 o) mX9_put (zQi (z1 o) (fun r N1 => r = N1 25 x1 ∧ (∀ b : Nat, b < 36 ∨ 121 < b → N1 b = zput M1 32 24 (ptz C R (M1 14 3) x1 n (M1 25, M1 32 4, M1 33)) b) ∧ ∀ N2 : zM, rEq (zput M1 32 24 (ptz C R (M1 14 3) x1 n (M1 25, M1 32 4, M1 33))) 24 (N2 10) → acR M2 N2 → jH (3000 + 600 * k) (600 * k) C R N1 N2)) 26 [(0, zA g 1), (1, zI x1), (2, zI n), (3, zI i)] [] (zput M1 32 24 z) by
          have hh := hs n 0 (M1 25, M1 32 4, M1 33) (by omega) (by omega) (hb1.le (by omega)) rfl
          rw [hz0] at hh
          exact hh
        intro j
        induction j with
        | zero =>
          intro i z i0 hi hB he
          obtain ⟨q, hc', hq⟩ := hJ.add (g := g) (o := o) (A1 := zput M1 32 24 z) (fun b p q => zput_o (by omega) (by omega) (by omega))
          rw [show ptz C R (M1 14 3) x1 n (M1 25, M1 32 4, M1 33) = z from he]
          exact SX9_put_26 ⟨by omega, by omega, fun _ => ⟨q, hc', fun N1 h => ⟨by omega, rfl, hq N1 h⟩⟩, fun h => by omega⟩
        | succ j ih =>
          intro i z i0 hi hB he
          have b := hB x1 hc.1 (by omega)
          have hU : BdB (3000 + 600 * k + (i + 1)) (up z.1 x1 (z.1 x1 + 1)) := up_bd (hB.le (by omega)) (by omega)
          have hd := c_drop (g := g) (o := o) (M := zput M1 32 24 z) h32 (zput_L h32 hL) hc (by rw [zput_h h32]; exact hU.le (by omega))
          rw [zput_h h32, zput_14 h32, show zput M1 32 24 z 32 4 = z.2.1 by rw [zput_a h32, if_pos rfl], show zput M1 32 24 z (32 + 1) = z.2.2 from zput_x] at hd
          refine SX9_put_26 ⟨by omega, by omega, fun h => by omega, fun _ => ⟨_, hd, fun M11 hq => ?_⟩⟩
          rw [hq, zput_put h32]
          exact ih (i + 1) _ (by omega) (by omega) (spz_bd hL.1 hS.1 96 _ x1 hc hU) (he.trans rfl)
      · obtain ⟨g1, g2, g3, g4, g5, g6, g7, g8, g9⟩ := hJ.ready ha hg
        have hrep0 : repz A3 (M1 25, 0, fun _ => 0) := ⟨fun i p q => by rw [← g1 i p (by omega)]; exact (hJ.eh i p q).symm, g4, Or.inl g5⟩
        suffices hs : ∀ (j : Nat) (i : Int) (z : Hz) (M4 : zM), 0 ≤ i → i + j = n → BdB (3000 + 600 * k + i) z.1 → ptz C R (M1 14 3) x1 n (M1 25, 0, fun _ => 0) = ptz C R (M1 14 3) x1 j z → repz M4 z → rfz A3 M4 → zT g' (z2 o') mX10_put (zQi (z2 o') (fun r N2 => r = N2 10 x1 ∧ acR M2 N2 ∧ (∀ b : Nat, b ≠ 1 → b ≠ 10 → b ≠ 11 → b ≠ 12 → N2 b = M2 b) ∧ (∀ i : Int, i ≠ 23 → i ≠ 24 → i ≠ 25 → i ≠ 28 → i ≠ 29 → N2 1 i = M2 1 i) ∧ (∀ i : Int, 0 ≤ i → i < 96 → N2 10 i = (ptz C R (M1 14 3) x1 n (M1 25, 0, fun _ => 0)).1 i) ∧ (∀ i : Int, 96 ≤ i → i < 198 → N2 10 i = M2 10 i))) 30 [(0, zA g' 1), (1, zI x1), (2, zI n), (3, zI i)] [] M4 from hs n 0 _ A3 (by omega) (by omega) (hb1.le (by omega)) rfl hrep0 rfz.rf
        intro j
        induction j with
        | zero =>
          intro i z M4 i0 hi hB he hz hf
          refine SX10_put_30 ⟨by omega, by omega, fun _ => ⟨_, c_keepsRow, fun M5 hk2 => ⟨by omega, ?_⟩⟩, fun h => by omega⟩
          obtain ⟨k1, k2⟩ := hk2
          obtain ⟨f1, f2, f3⟩ := hf
          rw [show ptz C R (M1 14 3) x1 n (M1 25, 0, fun _ => 0) = z from he]
          exact ⟨rfl, g6.of (by rw [k2 12 (by decide), f1 12 (by decide) (by decide)]) (by rw [k2 1 (by decide), f2 28 (by decide) (by decide)]) (by rw [k2 1 (by decide), f2 29 (by decide) (by decide)]), fun b p q r s => by rw [k2 b q, f1 b p r, g7 b p r s], fun i a b c d e => by rw [k2 1 (by decide), f2 i b c, g8 i a b c d e], fun i p q => by rw [← k1 i p (by omega)]; exact hz.1 i p q, fun i p q => by rw [← k1 i (by omega) q, f3 i p, ← g1 i (by omega) q]⟩
        | succ j ih =>
          intro i z M4 i0 hi hB he hz hf
          have b := hB x1 hc.1 (by omega)
          have hU : BdB (3000 + 600 * k + (i + 1)) (up z.1 x1 (z.1 x1 + 1)) := up_bd (hB.le (by omega)) (by omega)
          have ob : ∀ b : Nat, b ≠ 11 → zu M4 11 x1 (M4 11 x1 + 1) b = M4 b := fun b p => zu_other p
          have hL4 := hf.L g2
          have hrep : repz (zu M4 11 x1 (M4 11 x1 + 1)) (up z.1 x1 (z.1 x1 + 1), z.2.1, z.2.2) := by
            refine ⟨fun i p q => ?_, by rw [ob 1 (by decide)]; exact hz.2.1, by unfold rX; rw [ob 1 (by decide)]; exact hz.2.2⟩
            rw [zu_row, hz.1 i p q, hz.1 x1 hc.1 (by omega)]; rfl
          have hsp := c_spills (g := g') (o := o') (hL4.of (ob 3 (by decide)) (ob 4 (by decide)) (ob 5 (by decide))) hc (by rw [ob 1 (by decide), hf.2.1 26 (by decide) (by decide), g5]; decide) hrep (hU.le (by omega))
          rw [ob 3 (by decide), hf.1 3 (by decide) (by decide), g9] at hsp
          refine SX10_put_30 ⟨by omega, by omega, fun h => by omega, fun _ => ⟨by omega, _, hsp, fun M12 hq => ?_⟩⟩
          refine ih (i + 1) _ M12 (by omega) (by omega) (spz_bd hL.1 hS.1 96 _ x1 hc hU) (he.trans rfl) hq.1 (hf.trans (rfz.trans ⟨fun b p q => ob b q, fun i p q => by rw [ob 1 (by decide)], fun i p => by rw [zu_row, if_neg (by omega)]⟩ hq.2))
      · obtain ⟨q1, q4, q5⟩ := q
        obtain ⟨p1, p2, p3, p4, p5, p6⟩ := q'
        have fe := ptz_eq (S := M1 14 3) (z := (M1 25, M1 32 4, M1 33)) (z' := (M1 25, 0, fun _ => 0)) hL.1 n hc eq96.rf
        have hh := hJ.hts (A1 := zput M1 32 24 (ptz C R (M1 14 3) x1 n (M1 25, M1 32 4, M1 33))) (N2 := N2) (zput_o (by decide) (by decide) (by decide)) (zput_h h32) (zput_o (by decide) (by decide) (by decide)) (zput_o (by decide) (by decide) (by decide)) (fun i p q => by rw [p5 i p q]; exact (fe i p q).symm) p6 ((ptz_bd (z := (M1 25, M1 32 4, M1 33)) hL.1 hS.1 n hc hb1).le (by omega)) (fun i p q => by rw [ptz_out hL.1 n hc p]; show M1 25 i = 0; rw [hJ.eh i (by omega) q]; exact hJ.2.2.1.2.2.2.2.2.2.2.2.2 i p q)
        have hfr : rEq N1 24 (N2 10) := hh.1.fr (q4 24 (by decide)) (q4 25 (by decide)) (q4 26 (by decide)) (q4 27 (by decide))
        refine ⟨by rw [q1, p1]; exact hfr.1 x1 hc.1 (by omega), C, R, hJ.acted hk (fun b hb => by rw [q4 b (by omega)]; exact zput_o (by omega) (by omega) (by omega)) hfr hh.2 (q5 N2 hh.1 p2) (fun b hb => p3 b (by omega) (by omega) (by omega) (by omega)) (fun i hi => p4 i (by omega) (by omega) (by omega) (by omega) (by omega))⟩
    · exact zE_of (A := -1) hJ hk (zki_of rfl (Nat.le_of_ble_eq_true rfl) (SX9_put_0 (C := C) (R := R) ⟨h1, hL, fun h => absurd hc h, fun _ => ⟨h2, fun _ => ⟨rfl, fr1.rf⟩, fun _ => ⟨fun h => by omega, fun _ => ⟨rfl, fr1.rf⟩⟩⟩⟩)) (zki_of rfl (Nat.le_of_ble_eq_true rfl) (SX10_put_0 (C := C) (R := R) ⟨hR, h1, fun h => absurd hc h, fun _ => ⟨h2, fun h => absurd h hx, fun _ => ⟨rfl, fr2.rf⟩⟩⟩))
  · exact zE_of (A := -1) hJ hk (zki_of rfl (Nat.le_of_ble_eq_true rfl) (SX9_put_0 (C := C) (R := R) ⟨h1, hL, fun _ => ⟨rfl, fr1.rf⟩, fun h => absurd h hc⟩)) (zki_of rfl (Nat.le_of_ble_eq_true rfl) (SX10_put_0 (C := C) (R := R) ⟨hR, h1, fun _ => ⟨rfl, fr2.rf⟩, fun h => absurd h hc⟩))
end AC
