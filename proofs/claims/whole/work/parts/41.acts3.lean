section AE
variable {g g' : zG} {o o' : Bool} {M M' N A1 A2 M1 M2 N1 N2 : zM} {k C R c x v B T x1 x2 : Int} {p : Nat → Nat} {d e t u : Nat} {f : Int → Int}
theorem c_all0 (h : zRf M C R) (ho : rOK C R 1000000 1000000 (M 10)) : zKi g (z2 o) mX10_all [zA g 1, zI 0] M (fun r N => r = smt (M 10) (C * R).toNat ∧ (∀ b : Nat, b ≠ 1 → b ≠ 11 → N b = M b) ∧ ∀ i : Int, i ≠ 23 → i ≠ 24 → i ≠ 25 → N 1 i = M 1 i) := by
  have hn := geo_n h.1
  refine zki_of rfl (Nat.le_of_ble_eq_true rfl) (SX10_all_0 (C := C) (R := R) ⟨_, c_goesOn, fun N hq => ⟨by decide, fun _ => ?_, fun h => by omega, fun h => by omega, fun h => by omega, fun h => by omega, fun h => by omega, fun h => by omega, fun h => by omega⟩⟩)
  obtain ⟨q1, q2, q3, q4, q5, q6⟩ := hq
  exact ⟨h.of (q5 3 (by decide) (by decide)) (q5 4 (by decide) (by decide)) (q5 5 (by decide) (by decide)), ho.rf q1, smt_congr (fun i a b => (q1 i a (by omega)).symm), q5, q6⟩
theorem c_forget (ht : zSd t) (hp : M 37 0 = (e : Int)) (he : zSd e) : zKv g (z1 o) mX1_forget [zA g 36, zA g t] M (fun N => N 36 1 = 0 ∧ N 36 2 = 0 ∧ zsame M N e t ∧ ∀ b : Nat, b ≠ 36 → b ≠ e → b ≠ e + 1 → b ≠ e + 2 → b ≠ e + 3 → N b = M b) := by
  have h36 := zsd_36 ht
  have h36' := zsd_36 he
  refine zkv_of rfl (Nat.le_of_ble_eq_true rfl) (SX1_forget_0 ht fun N1 e1 => ⟨e, ?_, he, _, c_copy he ht, fun M6 hq => ?_⟩)
  · rw [zu_other (by decide), e1, zu_other (by decide)]; exact hp
  · have ob : ∀ b : Nat, b ≠ 36 → zu N1 36 2 0 b = M b := fun b hb => by rw [zu_other hb, e1, zu_other hb]
    obtain ⟨s1, s2⟩ := hq
    refine ⟨by rw [s2 36 (by omega) (by omega) (by omega) (by omega), zu_row, if_neg (by decide), e1, zu_at], by rw [s2 36 (by omega) (by omega) (by omega) (by omega), zu_at], s1.pre (ob _ (by omega)) (ob _ (by omega)) (ob _ (by omega)) (ob _ (by omega)), fun b a b1 b2 b3 b4 => by rw [s2 b b1 b2 b3 b4, ob b a]⟩
theorem Jt.kok (hJ : Jt k C R M1 M2) : kOk (M1 148) ∧ kOk (M2 17) ∧ ∀ i : Int, 0 ≤ i → i < 3 → M1 148 i = M2 17 i := by
  have key : ∀ i : Int, 0 ≤ i → i < 3 → M1 148 i = M2 17 i ∧ (M2 17 i = 0 ∨ M2 17 i = 1) := fun i h0 h1 => by
    obtain ⟨b, hb⟩ := znn h0
    rw [hb]
    have := hJ.2.2.2.2.2.1 b (by omega)
    exact ⟨this.2.1, this.2.2.1⟩
  exact ⟨fun i a b => by rw [(key i a b).1]; exact (key i a b).2, fun i a b => (key i a b).2, fun i a b => (key i a b).1⟩
theorem zsd_box {b : Nat} (h : b < 3) : zSd (136 + 4 * b) := by
  have h' : b = 0 ∨ b = 1 ∨ b = 2 := by omega
  unfold zSd
  rcases h' with rfl | rfl | rfl <;> decide
theorem p_image (hJ : Jt k C R M1 M2) (hk : k < 1000) (h1 : -2147483648 ≤ x1 ∧ x1 ≤ 2147483647) : zE g g' o o' mX9_image mX10_image [zI x1] k M1 M2 := by
  obtain ⟨hL, hR⟩ := hJ.lr
  have hgn := geo_n hL.1
  have hk0 := hJ.1
  by_cases hx : 0 ≤ x1 ∧ x1 ≤ 2
  · obtain ⟨b, hb⟩ := znn hx.1
    subst hb
    have hz := zsd_box (b := b) (by omega)
    obtain ⟨j1, j2, j3, j4⟩ := hJ.2.2.2.2.2.1 b (by omega)
    have h24 : zSd 24 := by unfold zSd; decide
    refine ⟨fun r N => r = smt (M1 25) 96 ∧ N 148 (b : Int) = 1 ∧ (∀ i : Int, i ≠ b → N 148 i = M1 148 i) ∧ zsame M1 N (136 + 4 * b) 24 ∧ ∀ a : Nat, a ≠ 148 → a ≠ 136 + 4 * b → a ≠ 136 + 4 * b + 1 → a ≠ 136 + 4 * b + 2 → a ≠ 136 + 4 * b + 3 → N a = M1 a,
      fun r N => r = smt (M2 10) (C * R).toNat ∧ N 17 (b : Int) = 1 ∧ (∀ i : Int, i ≠ b → N 17 i = M2 17 i) ∧ (∀ i : Int, 0 ≤ i → i < 198 → N 16 (198 * b + i) = M2 10 i) ∧ (∀ j : Int, j < 198 * b ∨ 198 * b + 198 ≤ j → N 16 j = M2 16 j) ∧ (∀ a : Nat, a ≠ 1 → a ≠ 11 → a ≠ 16 → a ≠ 17 → N a = M2 a) ∧ ∀ i : Int, i ≠ 23 → i ≠ 24 → i ≠ 25 → N 1 i = M2 1 i,
      zki_of rfl (Nat.le_of_ble_eq_true rfl) (SX9_image_0 ⟨by omega, fun h => by omega, fun _ => ⟨fun _ => ⟨by omega, 136 + 4 * b, j1, hz, _, c_copy hz h24, fun M6 hq => ?_⟩, fun h => by omega⟩⟩), zki_of rfl (Nat.le_of_ble_eq_true rfl) (SX10_image_0 ⟨by omega, fun _ => ⟨by omega, ?_⟩, fun h => absurd hx h⟩), fun r N1 r' N2 q q' => ?_⟩
    · obtain ⟨s1, s2⟩ := hq
      have ob : ∀ a : Nat, a ≠ 148 → zu M6 148 b 1 a = M6 a := fun a ha => zu_other ha
      have o24 : ∀ a : Nat, 24 ≤ a → a ≤ 27 → zu M6 148 b 1 a = M1 a := fun a p q => by rw [ob a (by omega), s2 a (by omega) (by omega) (by omega) (by omega)]
      refine ⟨?_, by rw [o24 25 (by decide) (by decide)], zu_at _ _ _ _, fun i hi => by rw [zu_row, if_neg hi, s2 148 (by omega) (by omega) (by omega) (by omega)], ?_, fun a a1 a2 a3 a4 a5 => by rw [ob a a1, s2 a a2 a3 a4 a5]⟩
      · have := hJ.sok
        unfold sOk SandOK at this ⊢
        rw [o24 24 (by decide) (by decide), o24 (24 + 1) (by decide) (by decide), o24 (24 + 2) (by decide) (by decide), o24 (24 + 3) (by decide) (by decide)]
        exact this
      · unfold zsame at s1 ⊢
        rw [ob _ (by omega), ob _ (by omega), ob _ (by omega), ob _ (by omega)]
        exact s1
    · suffices hs : ∀ (n : Nat) (i : Int) (M3 : zM), 0 ≤ i → i + n = 198 → (∀ j : Int, 0 ≤ j → j < i → M3 16 (198 * b + j) = M2 10 j) → (∀ j : Int, j < 198 * b ∨ 198 * b + 198 ≤ j → M3 16 j = M2 16 j) → (∀ a : Nat, a ≠ 16 → M3 a = zu M2 17 b 1 a) → zT g' (z2 o') mX10_image (zQi (z2 o') (fun r N => r = smt (M2 10) (C * R).toNat ∧ N 17 (b : Int) = 1 ∧ (∀ i : Int, i ≠ b → N 17 i = M2 17 i) ∧ (∀ i : Int, 0 ≤ i → i < 198 → N 16 (198 * b + i) = M2 10 i) ∧ (∀ j : Int, j < 198 * b ∨ 198 * b + 198 ≤ j → N 16 j = M2 16 j) ∧ (∀ a : Nat, a ≠ 1 → a ≠ 11 → a ≠ 16 → a ≠ 17 → N a = M2 a) ∧ ∀ i : Int, i ≠ 23 → i ≠ 24 → i ≠ 25 → N 1 i = M2 1 i)) 19 [(0, zA g' 1), (1, zI b), (2, zI i)] [] M3 from hs 198 0 _ (by omega) (by omega) (fun j a c => by omega) (fun j _ => by rw [zu_other (by decide)]) (fun _ _ => rfl)
      intro n
      induction n with
      | zero =>
        intro i M3 h0 hi ha hb hc
        have e10 : M3 10 = M2 10 := by rw [hc 10 (by decide), zu_other (by decide)]
        have hal := c_all0 (g := g') (o := o') (M := M3) (hR.of (by rw [hc 3 (by decide), zu_other (by decide)]) (by rw [hc 4 (by decide), zu_other (by decide)]) (by rw [hc 5 (by decide), zu_other (by decide)])) (by rw [e10]; exact hJ.ok)
        refine SX10_image_19 ⟨by omega, fun _ => ⟨_, hal, fun r M4 hq => ?_⟩, fun h => by omega⟩
        obtain ⟨q1, q2, q3⟩ := hq
        refine ⟨by rw [q1, e10], by rw [q2 17 (by decide) (by decide), hc 17 (by decide), zu_at], fun i hi => by rw [q2 17 (by decide) (by decide), hc 17 (by decide), zu_row, if_neg hi], fun j a c => by rw [q2 16 (by decide) (by decide)]; exact ha j a (by omega), fun j hj => by rw [q2 16 (by decide) (by decide)]; exact hb j hj, fun a a1 a2 a3 a4 => by rw [q2 a a1 a2, hc a a3, zu_other a4], fun i a1 a2 a3 => by rw [q3 i a1 a2 a3, hc 1 (by decide), zu_other (by decide)]⟩
      | succ n ih =>
        intro i M3 h0 hi ha hb hc
        refine SX10_image_19 ⟨by omega, fun h => by omega, fun _ => ⟨by omega, by omega, ih (i + 1) _ (by omega) (by omega) (fun j a c => ?_) (fun j hj => by rw [zu_row, if_neg (by omega)]; exact hb j hj) (fun a ha => by rw [zu_other ha, hc a ha])⟩⟩
        rw [zu_row]
        by_cases e : j = i
        · rw [if_pos (by omega), e, hc 10 (by decide), zu_other (by decide)]
        · rw [if_neg (by omega)]; exact ha j a (by omega)
    · obtain ⟨q1, q2, q3, q4, q5⟩ := q
      obtain ⟨p1, p2, p3, p4, p5, p6, p7⟩ := q'
      have hz9 := hJ.ok.2.2.2.2.2.2.2.2
      refine ⟨?_, C, R, ?_⟩
      · rw [q1, p1, smt_congr (f := M1 25) (h := M2 10) (fun i a c => hJ.eh i a (by omega)), smt_tail (n := (C * R).toNat) (by omega) (fun i a c => hz9 i (by omega) (by omega))]
      · have h0 := hJ
        obtain ⟨a0, a1, a2, a3, a4, a5, a6, a7, a8⟩ := hJ
        have n1 : ∀ a : Nat, a < 135 → N1 a = M1 a := fun a ha => q5 a (by omega) (by omega) (by omega) (by omega) (by omega)
        have n2 : ∀ a : Nat, a ≠ 1 → a ≠ 11 → a ≠ 16 → a ≠ 17 → N2 a = M2 a := p6
        have i2 : ∀ i : Int, i < 23 ∨ 25 < i → N2 1 i = M2 1 i := fun i hi => p7 i (by omega) (by omega) (by omega)
        refine h0.next hk (a1.fr (fun b p q => n1 b (by omega)) (fun b p q => n2 b (by omega) (by omega) (by omega) (by omega))) (a2.fr (fun b p q => n1 b (by omega)) (n2 10 (by decide) (by decide) (by decide) (by decide)) (by omega) (by omega)) (a3.fr (fun b p q => n1 b (by omega)) (n2 3 (by decide) (by decide) (by decide) (by decide)) (n2 7 (by decide) (by decide) (by decide) (by decide)) (n2 8 (by decide) (by decide) (by decide) (by decide)))
          (a4.fr (fun b p q => n1 b (by omega)) (n2 10 (by decide) (by decide) (by decide) (by decide)) (n2 12 (by decide) (by decide) (by decide) (by decide)) (i2 28 (by decide)) (i2 29 (by decide)) (by omega) (by omega)) ?_
          (a6.fr (fun b p q => n1 b (by omega)) (fun b p q => n2 b (by omega) (by omega) (by omega) (by omega)) (fun b p q => n2 b (by omega) (by omega) (by omega) (by omega)) (n2 7 (by decide) (by decide) (by decide) (by decide)) (n2 8 (by decide) (by decide) (by decide) (by decide)) (i2 42 (by decide))) (a7.fr (by rw [n1 2 (by decide)]) (n1 3 (by decide)) (n2 2 (by decide) (by decide) (by decide) (by decide)) (i2 1 (by decide))) (a8.fr (by rw [n1 1 (by decide)]) (by rw [n1 7 (by decide)]) (by rw [n1 7 (by decide)]) (i2 43 (by decide)) (i2 9 (by decide)) (i2 10 (by decide)) (i2 26 (by decide)))
        intro b' hb'
        obtain ⟨c1, c2, c3, c4⟩ := a5 b' hb'
        refine ⟨by rw [q5 135 (by omega) (by omega) (by omega) (by omega) (by omega)]; exact c1, ?_⟩
        by_cases e : b' = b
        · subst e
          have eq : eqr (M2 10) (rwk (N2 16) b') := fun i a c => (p4 i a c).symm
          exact ⟨by rw [q2, p2], Or.inr p2, fun _ => ⟨(a2.1.same q4).of eq, (a2.2.of hL.1 eq).mono (by omega) (by omega)⟩⟩
        · rw [q3 b' (by omega), p3 b' (by omega)]
          have eq : eqr (rwk (M2 16) b') (rwk (N2 16) b') := fun i a c => (p5 (198 * b' + i) (by omega)).symm
          have nn : ∀ j : Nat, j ≤ 3 → N1 (136 + 4 * b' + j) = M1 (136 + 4 * b' + j) := fun j hj => q5 _ (by omega) (by omega) (by omega) (by omega) (by omega)
          exact ⟨c2, c3, fun h => ⟨((c4 h).1.fr (nn 0 (by decide)) (nn 1 (by decide)) (nn 2 (by decide)) (nn 3 (by decide))).of eq, ((c4 h).2.of hL.1 eq).mono (by omega) (by omega)⟩⟩
  · exact zE_of (A := -1) hJ hk (zki_of rfl (Nat.le_of_ble_eq_true rfl) (SX9_image_0 ⟨h1, fun _ => ⟨rfl, fr1.rf⟩, fun _ => ⟨fun h => by omega, fun _ => ⟨rfl, fr1.rf⟩⟩⟩)) (zki_of rfl (Nat.le_of_ble_eq_true rfl) (SX10_image_0 ⟨h1, fun h => absurd h hx, fun _ => ⟨rfl, fr2.rf⟩⟩))
theorem p_back (hJ : Jt k C R M1 M2) (hk : k < 1000) (h1 : -2147483648 ≤ x1 ∧ x1 ≤ 2147483647) : zE g g' o o' mX9_back mX10_back [zI x1] k M1 M2 := by
  obtain ⟨hL, hR⟩ := hJ.lr
  have hgn := geo_n hL.1
  have hk0 := hJ.1
  obtain ⟨kk1, kk2, kk3⟩ := hJ.kok
  by_cases hx : (0 ≤ x1 ∧ x1 < 3) ∧ M2 17 x1 = 1
  · have e148 := kk3 x1 hx.1.1 hx.1.2
    obtain ⟨b, hb⟩ := znn hx.1.1
    subst hb
    have hz := zsd_box (b := b) (by omega)
    obtain ⟨j1, j2, j3, j4⟩ := hJ.2.2.2.2.2.1 b (by omega)
    obtain ⟨j5, j6⟩ := j4 hx.2
    have h24 : zSd 24 := by unfold zSd; decide
    obtain ⟨p, d, u, h1', h2, h3, h4, h5, h6, h7, h8, h9⟩ := hJ.2.2.2.2.1
    have hp0 := zhs_in (h6.1 0 (by decide)).2
    have h36 := zsd_36 hp0.2.2
    have j7 := j6.mono (B' := 1000000) (T' := 1000000) (by omega) (by omega)
    refine ⟨fun r N => r = smt (M1 (136 + 4 * b + 1)) 96 ∧ N 36 1 = 0 ∧ N 36 2 = 0 ∧ rEq N 24 (rwk (M2 16) b) ∧ rEq N (p 0) (rwk (M2 16) b) ∧ ∀ a : Nat, a ≠ 36 → a < 24 ∨ 27 < a → a ≠ p 0 → a ≠ p 0 + 1 → a ≠ p 0 + 2 → a ≠ p 0 + 3 → N a = M1 a,
      fun r N => r = smt (rwk (M2 16) b) (C * R).toNat ∧ N 1 28 = 0 ∧ N 1 29 = 0 ∧ eqr (rwk (M2 16) b) (N 10) ∧ (∀ a : Nat, a ≠ 1 → a ≠ 10 → a ≠ 11 → N a = M2 a) ∧ ∀ i : Int, i ≠ 23 → i ≠ 24 → i ≠ 25 → i ≠ 28 → i ≠ 29 → N 1 i = M2 1 i,
      zki_of rfl (Nat.le_of_ble_eq_true rfl) (SX9_back_0 ⟨by omega, kk1, fun _ => ⟨by omega, 136 + 4 * b, j1, hz, _, c_copy h24 hz, fun M11 hq => ?_⟩, fun h => absurd ⟨hx.1, by omega⟩ h⟩), zki_of rfl (Nat.le_of_ble_eq_true rfl) (SX10_back_0 ⟨by omega, kk2, fun _ => ?_, fun h => absurd hx h⟩), fun r N1 r' N2 q q' => ?_⟩
    · obtain ⟨s1, s2⟩ := hq
      have hre : rEq M11 24 (rwk (M2 16) b) := j5.same s1
      have hfo := c_forget (g := g) (o := o) (M := M11) (t := 24) (e := p 0) h24 (by rw [s2 37 (by decide) (by decide) (by decide) (by decide)]; exact (h6.1 0 (by decide)).1) hp0.2.2
      refine ⟨_, hfo, fun M16 hq => ?_⟩
      obtain ⟨f1, f2, f3, f4⟩ := hq
      have ob : ∀ a : Nat, 24 ≤ a → a ≤ 27 → M16 a = M11 a := fun a a1 a2 => f4 a (by omega) (by omega) (by omega) (by omega) (by omega)
      have hre2 : rEq M16 24 (rwk (M2 16) b) := hre.fr (ob 24 (by decide) (by decide)) (ob 25 (by decide) (by decide)) (ob 26 (by decide) (by decide)) (ob 27 (by decide) (by decide))
      refine ⟨hre2.sd j7, ?_, f1, f2, hre2, hre.same f3, fun a a1 a2 a3 a4 a5 a6 => by rw [f4 a a1 a3 a4 a5 a6, s2 a (by omega) (by omega) (by omega) (by omega)]⟩
      exact smt_congr (fun i a c => (hre2.1 i a c).trans (j5.1 i a c).symm)
    · suffices hs : ∀ (n : Nat) (i : Int) (M3 : zM), 0 ≤ i → i + n = 198 → (∀ j : Int, 0 ≤ j → j < i → M3 10 j = M2 16 (198 * b + j)) → (∀ a : Nat, a ≠ 10 → M3 a = M2 a) → zT g' (z2 o') mX10_back (zQi (z2 o') (fun r N => r = smt (rwk (M2 16) b) (C * R).toNat ∧ N 1 28 = 0 ∧ N 1 29 = 0 ∧ eqr (rwk (M2 16) b) (N 10) ∧ (∀ a : Nat, a ≠ 1 → a ≠ 10 → a ≠ 11 → N a = M2 a) ∧ ∀ i : Int, i ≠ 23 → i ≠ 24 → i ≠ 25 → i ≠ 28 → i ≠ 29 → N 1 i = M2 1 i)) 12 [(0, zA g' 1), (1, zI b), (2, zI i)] [] M3 from hs 198 0 _ (by omega) (by omega) (fun j a c => by omega) (fun _ _ => rfl)
      intro n
      induction n with
      | zero =>
        intro i M3 h0 hi ha hc
        refine SX10_back_12 ⟨by omega, fun _ N2 e2 => ?_, fun h => by omega⟩
        have ob : ∀ a : Nat, a ≠ 1 → zu N2 1 29 0 a = M3 a := fun a a1 => by rw [zu_other a1, e2, zu_other a1]
        have eq : eqr (rwk (M2 16) b) (M3 10) := fun j a c => (ha j a (by omega)).symm
        have hal := c_all0 (g := g') (o := o') (M := zu N2 1 29 0) (hR.of (by rw [ob 3 (by decide), hc 3 (by decide)]) (by rw [ob 4 (by decide), hc 4 (by decide)]) (by rw [ob 5 (by decide), hc 5 (by decide)])) (by rw [ob 10 (by decide)]; exact j7.of hL.1 eq)
        refine ⟨_, hal, fun r M6 hq => ?_⟩
        obtain ⟨q1, q2, q3⟩ := hq
        refine ⟨by rw [q1, ob 10 (by decide)]; exact smt_congr (fun i a c => (eq i a (by omega)).symm), by rw [q3 28 (by decide) (by decide) (by decide), zu_row, if_neg (by decide), e2, zu_at], by rw [q3 29 (by decide) (by decide) (by decide), zu_at], by rw [q2 10 (by decide) (by decide), ob 10 (by decide)]; exact eq, fun a a1 a2 a3 => by rw [q2 a a1 a3, ob a a1, hc a a2], fun i a1 a2 a3 a4 a5 => by rw [q3 i a1 a2 a3, zu_row, if_neg a5, e2, zu_row, if_neg a4, hc 1 (by decide)]⟩
      | succ n ih =>
        intro i M3 h0 hi ha hc
        refine SX10_back_12 ⟨by omega, fun h => by omega, fun _ => ⟨by omega, by omega, ih (i + 1) _ (by omega) (by omega) (fun j a c => ?_) (fun a ha => by rw [zu_other ha, hc a ha])⟩⟩
        rw [zu_row]
        by_cases e : j = i
        · rw [if_pos e, hc 16 (by decide), e]
        · rw [if_neg e]; exact ha j a (by omega)
    · obtain ⟨q1, q2, q3, q4, q5, q6⟩ := q
      obtain ⟨p1, p2, p3, p4, p5, p6⟩ := q'
      have hz9 := j7.2.2.2.2.2.2.2.2
      refine ⟨?_, C, R, hJ.acted hk (fun a ha => q6 a (by omega) (by omega) (by omega) (by omega) (by omega) (by omega)) (q4.of p4) ((j6.of hL.1 p4).mono (by omega) (by omega)) ⟨p, 0, 0, q2, p2, q3, p3, by omega, ⟨fun i hi => ⟨by rw [q6 37 (by decide) (by decide) (by omega) (by omega) (by omega) (by omega)]; exact (h6.1 i hi).1, (h6.1 i hi).2⟩, h6.2⟩, fun i hi => by omega, fun i a c => by omega, q5.of p4⟩ (fun a ha => p5 a (by omega) (by omega) (by omega)) (fun i hi => p6 i (by omega) (by omega) (by omega) (by omega) (by omega))⟩
      rw [q1, p1, smt_congr (f := M1 (136 + 4 * b + 1)) (h := rwk (M2 16) b) (fun i a c => j5.1 i a (by omega)), smt_tail (n := (C * R).toNat) (by omega) (fun i a c => hz9 i (by omega) (by omega))]
  · have hx' : ¬ ((0 ≤ x1 ∧ x1 < 3) ∧ M1 148 x1 = 1) := fun h => hx ⟨h.1, by rw [← kk3 x1 h.1.1 h.1.2]; exact h.2⟩
    exact zE_of (A := -1) hJ hk (zki_of rfl (Nat.le_of_ble_eq_true rfl) (SX9_back_0 ⟨h1, kk1, fun h => absurd h hx', fun _ => ⟨rfl, fr1.rf⟩⟩)) (zki_of rfl (Nat.le_of_ble_eq_true rfl) (SX10_back_0 ⟨h1, kk2, fun h => absurd h hx, fun _ => ⟨rfl, fr2.rf⟩⟩))
end AE
