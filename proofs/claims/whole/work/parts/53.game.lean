section GM
variable {g g' : zG} {o o' : Bool} {M M' M1 M2 N N1 N2 : zM} {k C R c d m x sd x1 x2 x3 B T B' T' : Int} {n s : Nat}
theorem SandOK.upto (h : SandOK M s B T) (hB : B ≤ B') (hT : T ≤ T') : SandOK M s B' T' := by
  obtain ⟨a1, a2, a3, a4, a5, a6, a7, a8⟩ := h
  exact ⟨a1.le hB, a2, a3, a4, a5, a6, a7, by omega⟩
theorem RefOK.upto (h : RefOK M B T) (hB : B ≤ B') (hT : T ≤ T') : RefOK M B' T' := by
  obtain ⟨a1, a2, a3, a4, a5, a6, a7, a8⟩ := h
  exact ⟨a1.le hB, a2, a3, a4, a5, a6, a7, by omega⟩
/-- heights behind so many tries by a seed -/
noncomputable def gmH (C R : Int) (M1 : zM) (n : Nat) (sd : Int) : Int → Int := (trS C R M1 24 sd n).1.1
theorem gmH_z (hJ : Jt k C R M1 M2) (i : Int) (h0 : C * R ≤ i) (h1 : i < 96) : gmH C R M1 n sd i = 0 := by
  have hn := geo_n hJ.lr.1.1
  have e : gmH C R M1 n sd i = (tgx M1 24 sd).1.1 i := blw_out hJ.lr.1.1 n h0
  rw [e]
  show zcpy (M1 25) (M1 29) 0 0 96 i = 0
  rw [zcpy_eq (by omega) h1, hJ.eh i (by omega) h1]
  exact hJ.ok.2.2.2.2.2.2.2.2 i h0 h1
theorem Jt.runN (hJ : Jt k C R M1 M2) (hf : fr1 M1 N) (hn : n ≤ 500) (hs : 0 ≤ sd ∧ sd ≤ 10006) : zKi g (z1 o) mX9_runTrial [zA g 1, zI sd, zI n] N (fun r N' => r = trN C R M1 24 sd n ∧ eq96 (N' 29) (gmH C R M1 n sd) ∧ fr1 M1 N' ∧ sOk N' 28) := by
  have hk0 := hJ.1
  have e24 : N 24 = M1 24 := hf.1 24 rfl
  have e25 : N 25 = M1 25 := hf.1 25 rfl
  have e26 : N 26 = M1 26 := hf.1 26 rfl
  have e27 : N 27 = M1 27 := hf.1 27 rfl
  have e14 : N 14 = M1 14 := hf.1 14 rfl
  have hO : SandOK N 24 (3000 + 600 * k) (600 * k) := by
    have := hJ.2.2.1.1.sd hJ.2.2.1.2
    unfold SandOK at this ⊢
    rw [show N (24 + 1) = M1 (24 + 1) from e25, show N (24 + 2) = M1 (24 + 2) from e26, show N (24 + 3) = M1 (24 + 3) from e27, e24]
    exact this
  have hw : wnd N = wnd M1 := wnd_congr e14 (hf.1 18 rfl) (hf.1 19 rfl)
  have hx : xeq (tgx N 24 sd) (tgx M1 24 sd) := by
    refine ⟨fun i a b => ?_, ?_⟩
    · show zcpy (N (24 + 1)) (N 29) 0 0 96 i = zcpy (M1 (24 + 1)) (M1 29) 0 0 96 i
      rw [zcpy_eq a b, zcpy_eq a b, show N (24 + 1) = M1 (24 + 1) from e25]
    · show ((sd, N 24 4) : Int × Int) = (sd, M1 24 4)
      rw [e24]
  have hg : eq96 (tgG N 24) (tgG M1 24) := fun i a b => by
    show zcpy (N (24 + 2)) (N 30) 0 0 96 i = zcpy (M1 (24 + 2)) (M1 30) 0 0 96 i
    rw [zcpy_eq a b, zcpy_eq a b, show N (24 + 2) = M1 (24 + 2) from e26]
  have key := blw_eq (S := M1 14 3) (wd := wnd M1) (hop := M1 27 0) (sh := M1 27 1) (st := M1 27 2) (bt := M1 27 3) hJ.lr.1.1 n hx hg
  have eN : trN C R N 24 sd n = trN C R M1 24 sd n := by
    unfold trN; rw [e14, hw, show N (24 + 3) = M1 27 from e27]; exact key.1
  have eS : eq96 (trS C R N 24 sd n).1.1 (gmH C R M1 n sd) := by
    unfold trS gmH; rw [e14, hw, show N (24 + 3) = M1 27 from e27]; exact key.2.1
  refine zki_mono (c_runTrial (hf.Ld hJ.lr.1) hO hs hn (by omega) (by omega)) (fun r N' h => ⟨h.1.trans eN, ?_, hf.trans (h.2.2.1.fr1 rfl), h.2.2.2.upto (by omega) (by omega)⟩)
  have e29 : N' 29 = (trS C R N 24 sd n).1.1 := congrArg (fun z : Sx => z.1.1) h.2.1
  rw [e29]; exact eS
/-- what a game is asked for -/
noncomputable def gmA (C R : Int) (M1 : zM) (n : Nat) (sd w : Int) : Int := if w = 0 then mxt (gmH C R M1 n sd) (C * R).toNat else if w = 1 then cnt (fun i => gmH C R M1 n sd i = 0) (C * R).toNat else if w = 2 then (dn C R (gmH C R M1 n sd) 1).2 else trN C R M1 24 sd n
theorem Jt.gmR (hJ : Jt k C R M1 M2) (hf : fr2 M2 N) (hn : n ≤ 500) (hs : 0 ≤ sd ∧ sd ≤ 9999) (hw : 0 ≤ x ∧ x ≤ 3) : zKi g (z2 o) mX10_game [zA g 1, zI sd, zI n, zI x] N (fun r N' => r = gmA C R M1 n sd x ∧ fr2 M2 N' ∧ (x = 0 → 0 ≤ r ∧ r ≤ 1000000)) := by
  obtain ⟨hL, hR⟩ := hJ.lr
  have hgn := geo_n hL.1
  have hk0 := hJ.1
  refine zki_of rfl (Nat.le_of_ble_eq_true rfl) (SX10_game_0 (C := C) (R := R) ⟨by omega, fun h => absurd hs h, fun _ => ⟨by omega, fun h => by omega, fun _ => ⟨by omega, fun _ => ⟨_, c_goesOn, fun A hg => ?_⟩, fun h => absurd hw h⟩⟩⟩)
  obtain ⟨g1, g2, g3, g4, g5, g6⟩ := hg
  have e10 : N 10 = M2 10 := hf.1 10 rfl
  have l26 : A 1 26 = -1 := by rw [g6 26 (by decide) (by decide) (by decide), hf.2 26 (by decide)]; exact hJ.2.2.2.2.2.2.2.2.2.2.2.2
  have ob : ∀ b : Nat, b ≠ 11 → zu A 11 196 sd b = A b := fun b hb => zu_other hb
  have hbl := hJ.blws (g' := g) (o' := o) (A := zu A 11 196 sd) (n := n) (sd := sd) hn (by omega) (fun i a b c => by rw [zu_row, if_neg c, ← g1 i a b, e10]) (by rw [zu_at]) (by rw [ob 1 (by decide)]; exact g2) (by rw [ob 1 (by decide)]; exact g3) (by rw [ob 1 (by decide)]; exact g4) (by rw [ob 1 (by decide), l26]; decide) (by rw [ob 3 (by decide), g5 3 (by decide) (by decide)]; exact hf.1 3 rfl) (by rw [ob 4 (by decide), g5 4 (by decide) (by decide)]; exact hf.1 4 rfl) (by rw [ob 5 (by decide), g5 5 (by decide) (by decide)]; exact hf.1 5 rfl)
  refine ⟨_, hbl, fun r N' hq => ?_⟩
  obtain ⟨q1, q2, q3, q4⟩ := hq
  have fN : fr2 M2 N' := hf.trans (go_fr (fun b p q => by rw [q3.1 b p q, ob b q, g5 b p q]) (fun i p q r => by rw [q3.2.1 i p q r, ob 1 (by decide), g6 i p q r]))
  have hH : ∀ i : Int, 0 ≤ i → i < 96 → N' 11 i = gmH C R M1 n sd i := q2.1.1
  have rk : rOk N' := q4.upto (by omega) (by omega)
  have hRN : zRf N' C R := fN.Ld hR
  refine ⟨by omega, fun h0 => ⟨fun h1 => ⟨fun h2 => ⟨?_, fN, fun h => absurd h h0⟩, fun h2 => ⟨_, c_laysDunes (P := fun c => 1 ≤ gmH C R M1 n sd c) (h1 := 11) (n1 := 198) (h4 := 13) hRN rfl (by decide) (by decide) (Or.inl rfl) (by decide) (fun d a b => ?_), fun r' N3 h => ⟨?_, fN.trans h.2.2.fr, fun h => absurd h h0⟩⟩⟩, fun h1 => ⟨hRN, rk, ?_, fN, fun h => absurd h h0⟩⟩, fun h0 => ⟨hRN, rk, ?_, fN, fun _ => mxt_in (by decide) (fun i a b => (rk.1 i a (by omega)).2)⟩⟩
  · unfold gmA; rw [if_neg h0, if_neg h1, if_neg h2]; exact q1
  · have e := hH d a (by omega)
    have b' := rk.1 d a (by omega)
    rw [Int.zero_add, e]
    rw [e] at b'
    exact ⟨⟨Iff.rfl, by omega, by omega⟩, by omega, by omega⟩
  · unfold gmA; rw [if_neg h0, if_neg h1, if_pos h2]; exact h.1
  · unfold gmA; rw [if_neg h0, if_pos h1]; exact cnt_congr (fun i a b => by rw [hH i a (by omega)])
  · unfold gmA; rw [if_pos h0]; exact mxt_congr (fun i a b => hH i a (by omega))
theorem gm_mx (hJ : Jt k C R M1 M2) {H : Int → Int} (e : eq96 H (gmH C R M1 n sd)) : mxt H 96 = gmA C R M1 n sd 0 := by
  have hgn := geo_n hJ.lr.1.1
  rw [mxt_congr (f := H) (h := gmH C R M1 n sd) (fun i a b => e i a (by omega)), mxt_tail (n := (C * R).toNat) (by omega) (fun i a b => gmH_z hJ i (by omega) (by omega))]
  rfl
theorem p_game (hJ : Jt k C R M1 M2) (hk : k < 1000) (h1 : -2147483648 ≤ x1 ∧ x1 ≤ 2147483647) (h2 : -2147483648 ≤ x2 ∧ x2 ≤ 2147483647) (h3 : -2147483648 ≤ x3 ∧ x3 ≤ 2147483647) : zE g g' o o' mX9_game mX10_game [zI x1, zI x2, zI x3] k M1 M2 := by
  obtain ⟨hL, hR⟩ := hJ.lr
  have hgn := geo_n hL.1
  by_cases hx : 0 ≤ x1 ∧ x1 ≤ 9999
  · by_cases hy : 0 ≤ x2 ∧ x2 ≤ 500
    · by_cases hw : 0 ≤ x3 ∧ x3 ≤ 3
      · obtain ⟨n, hn⟩ := znn hy.1
        subst hn
        refine zE_of (A := gmA C R M1 n x1 x3) hJ hk (zki_of rfl (Nat.le_of_ble_eq_true rfl) (SX9_game_0 (C := C) (R := R) ⟨h1, fun h => by omega, fun _ => ⟨fun h => by omega, fun _ => ⟨h2, fun h => by omega, fun _ => ⟨fun h => by omega, fun _ => ⟨h3, fun h => by omega, fun _ => ⟨fun _ => ⟨_, hJ.runN fr1.rf (by omega) (by omega), fun r N hq => ?_⟩, fun h => by omega⟩⟩⟩⟩⟩⟩)) (zki_mono (hJ.gmR fr2.rf (by omega) hx hw) (fun r N h => ⟨h.1, h.2.1⟩))
        obtain ⟨q1, q2, q3, q4⟩ := hq
        have hL' := q3.Ld hL
        have e14 : N 14 2 = C * R := hL'.2.2.2.1
        refine ⟨fun h => ⟨q4, ?_, q3⟩, fun h => ⟨hL', q4, e14, ?_, q3⟩, fun h => ⟨_, c_joinLevel (P := fun c => 1 ≤ gmH C R M1 n x1 c) (h1 := 29) (n1 := 96) (Or.inl rfl) hL' rfl (by decide) (by decide) (by decide) (by decide) (by decide) (fun d a b => ?_), fun N3 h' => ⟨?_, ?_⟩⟩, fun h => ⟨?_, q3⟩⟩
        · rw [gm_mx hJ q2]; subst h; rfl
        · subst h; exact cnt_congr (fun i a b => by rw [q2 i a (by omega)])
        · have b' := q4.1 d a (by omega)
          have e := q2 d a (by omega)
          rw [e] at b' ⊢
          exact ⟨Iff.rfl, by omega, by omega⟩
        · subst h; exact h'.1.2
        · refine q3.trans (frl.fr1 (l := [127, 128, 129, 130]) (fun b hb => ?_) rfl)
          have hb' : b ≠ 127 ∧ b ≠ 128 ∧ b ≠ 129 ∧ b ≠ 130 := by simp at hb; omega
          exact h'.2 b hb'.1 hb'.2.1 hb'.2.2.1 hb'.2.2.2
        · have e3 : x3 = 3 := by omega
          subst e3; exact q1
      · exact zE_of (A := -1) hJ hk (zki_of rfl (Nat.le_of_ble_eq_true rfl) (SX9_game_0 (C := C) (R := R) ⟨h1, fun h => by omega, fun _ => ⟨fun h => by omega, fun _ => ⟨h2, fun h => by omega, fun _ => ⟨fun h => by omega, fun _ => ⟨h3, fun _ => ⟨rfl, fr1.rf⟩, fun _ => ⟨fun h => by omega, fun _ => ⟨rfl, fr1.rf⟩⟩⟩⟩⟩⟩⟩)) (zki_of rfl (Nat.le_of_ble_eq_true rfl) (SX10_game_0 (C := C) (R := R) ⟨h1, fun h => absurd hx h, fun _ => ⟨h2, fun h => absurd hy h, fun _ => ⟨h3, fun h => absurd h hw, fun _ => ⟨rfl, fr2.rf⟩⟩⟩⟩))
    · exact zE_of (A := -1) hJ hk (zki_of rfl (Nat.le_of_ble_eq_true rfl) (SX9_game_0 (C := C) (R := R) ⟨h1, fun h => by omega, fun _ => ⟨fun h => by omega, fun _ => ⟨h2, fun _ => ⟨rfl, fr1.rf⟩, fun _ => ⟨fun _ => ⟨rfl, fr1.rf⟩, fun h => by omega⟩⟩⟩⟩)) (zki_of rfl (Nat.le_of_ble_eq_true rfl) (SX10_game_0 (C := C) (R := R) ⟨h1, fun h => absurd hx h, fun _ => ⟨h2, fun _ => ⟨rfl, fr2.rf⟩, fun h => absurd h hy⟩⟩))
  · exact zE_of (A := -1) hJ hk (zki_of rfl (Nat.le_of_ble_eq_true rfl) (SX9_game_0 (C := C) (R := R) ⟨h1, fun _ => ⟨rfl, fr1.rf⟩, fun _ => ⟨fun _ => ⟨rfl, fr1.rf⟩, fun h => by omega⟩⟩)) (zki_of rfl (Nat.le_of_ble_eq_true rfl) (SX10_game_0 (C := C) (R := R) ⟨h1, fun _ => ⟨rfl, fr2.rf⟩, fun h => absurd h hx⟩))
theorem p_tallest (hJ : Jt k C R M1 M2) (hk : k < 1000) (h1 : -2147483648 ≤ x1 ∧ x1 ≤ 2147483647) (h2 : -2147483648 ≤ x2 ∧ x2 ≤ 2147483647) : zE g g' o o' mX9_tallest mX10_tallest [zI x1, zI x2] k M1 M2 := by
  obtain ⟨hL, hR⟩ := hJ.lr
  have hgn := geo_n hL.1
  by_cases hx : 0 ≤ x1 ∧ x1 ≤ 200
  · by_cases hw : 0 ≤ x2 ∧ x2 ≤ 1
    · obtain ⟨n, hn⟩ := znn hx.1
      subst hn
      have ss : ∀ j : Nat, sbm (fun s => gmA C R M1 n s 0) (j + 1) = if (sbm (fun s => gmA C R M1 n s 0) j).1 < gmA C R M1 n j 0 then (gmA C R M1 n j 0, (j : Int)) else sbm (fun s => gmA C R M1 n s 0) j := fun j => rfl
      refine zE_of (A := if x2 = 0 then (sbm (fun s => gmA C R M1 n s 0) 50).2 else (sbm (fun s => gmA C R M1 n s 0) 50).1) hJ hk ?_ ?_
      · refine zki_of rfl (Nat.le_of_ble_eq_true rfl) (SX9_tallest_0 ⟨h1, fun h => by omega, fun _ => ⟨fun h => by omega, fun _ => ⟨h2, fun h => by omega, fun _ => ⟨fun _ => ?_, fun h => by omega⟩⟩⟩⟩)
        suffices hs : ∀ (i j : Nat) (N : zM), j + i = 50 → fr1 M1 N → (∀ j' : Nat, j' < j → 0 ≤ gmA C R M1 n j' 0 ∧ gmA C R M1 n j' 0 ≤ 1000000) → zT g (z1 o) mX9_tallest (zQi (z1 o) (fun r N => r = (if x2 = 0 then (sbm (fun s => gmA C R M1 n s 0) 50).2 else (sbm (fun s => gmA C R M1 n s 0) 50).1) ∧ fr1 M1 N)) 30 [(0, zA g 1), (1, zI n), (2, zI x2), (3, zI (sbm (fun s => gmA C R M1 n s 0) j).2), (4, zI (sbm (fun s => gmA C R M1 n s 0) j).1), (5, zI j)] [] N from hs 50 0 M1 rfl fr1.rf (fun j h => by omega)
        intro i
        induction i with
        | zero =>
          intro j N hj hf hb
          have hj50 : j = 50 := by omega
          subst hj50
          exact SX9_tallest_30 ⟨by omega, fun _ => ⟨h2, fun h => ⟨by rw [if_neg h], hf⟩, fun h => ⟨by rw [if_pos h], hf⟩⟩, fun h => by omega⟩
        | succ i ih =>
          intro j N hj hf hb
          have si := sbm_in (F := fun s => gmA C R M1 n s 0) (B := 1000000) j (by decide) (fun i hi => by have := hb i hi; exact ⟨by show -1 ≤ gmA C R M1 n i 0; omega, this.2⟩)
          refine SX9_tallest_30 ⟨by omega, fun h => by omega, fun _ => ⟨_, hJ.runN hf (by omega) (by omega), fun r N' hq => ?_⟩⟩
          obtain ⟨q1, q2, q3, q4⟩ := hq
          have mx := gm_mx hJ q2
          have mb := mxt_in (f := N' 29) (B := 1000000) (n := 96) (by decide) (fun i a b => (q4.1 i a (by omega)).2)
          have hb' : ∀ j' : Nat, j' < j + 1 → 0 ≤ gmA C R M1 n j' 0 ∧ gmA C R M1 n j' 0 ≤ 1000000 := fun j' h => by
            by_cases e : j' = j
            · rw [e, ← mx]; exact mb
            · exact hb j' (by omega)
          have nx := ih (j + 1) N' (by omega) q3 hb'
          refine ⟨q4, by omega, by omega, fun h => ?_, fun h => ?_⟩
          · rw [show sbm (fun s => gmA C R M1 n s 0) (j + 1) = sbm (fun s => gmA C R M1 n s 0) j by rw [ss j, if_neg (by rw [← mx]; omega)]] at nx; exact nx
          · rw [show sbm (fun s => gmA C R M1 n s 0) (j + 1) = (gmA C R M1 n j 0, (j : Int)) by rw [ss j, if_pos (by rw [← mx]; omega)]] at nx
            rw [mx]; exact nx
      · refine zki_of rfl (Nat.le_of_ble_eq_true rfl) (SX10_tallest_0 ⟨h1, fun h => absurd hx h, fun _ => ⟨h2, fun _ => ?_, fun h => absurd hw h⟩⟩)
        suffices hs : ∀ (i j : Nat) (N : zM), j + i = 50 → fr2 M2 N → (∀ j' : Nat, j' < j → 0 ≤ gmA C R M1 n j' 0 ∧ gmA C R M1 n j' 0 ≤ 1000000) → zT g' (z2 o') mX10_tallest (zQi (z2 o') (fun r N => r = (if x2 = 0 then (sbm (fun s => gmA C R M1 n s 0) 50).2 else (sbm (fun s => gmA C R M1 n s 0) 50).1) ∧ fr2 M2 N)) 30 [(0, zA g' 1), (1, zI n), (2, zI x2), (3, zI (sbm (fun s => gmA C R M1 n s 0) j).2), (4, zI (sbm (fun s => gmA C R M1 n s 0) j).1), (5, zI j)] [] N from hs 50 0 M2 rfl fr2.rf (fun j h => by omega)
        intro i
        induction i with
        | zero =>
          intro j N hj hf hb
          have hj50 : j = 50 := by omega
          subst hj50
          exact SX10_tallest_30 ⟨by omega, fun _ => ⟨h2, fun h => ⟨by rw [if_neg h], hf⟩, fun h => ⟨by rw [if_pos h], hf⟩⟩, fun h => by omega⟩
        | succ i ih =>
          intro j N hj hf hb
          have si := sbm_in (F := fun s => gmA C R M1 n s 0) (B := 1000000) j (by decide) (fun i hi => by have := hb i hi; exact ⟨by show -1 ≤ gmA C R M1 n i 0; omega, this.2⟩)
          refine SX10_tallest_30 ⟨by omega, fun h => by omega, fun _ => ⟨_, hJ.gmR hf (by omega) (by omega) (by decide), fun r N' hq => ?_⟩⟩
          obtain ⟨q1, q3, q4⟩ := hq
          have q4 := q4 rfl
          have nx := ih (j + 1) N' (by omega) q3 (fun j' h => by
            by_cases e : j' = j
            · rw [e, ← q1]; exact q4
            · exact hb j' (by omega))
          refine ⟨by omega, by omega, fun h => ?_, fun h => ?_⟩
          · rw [show sbm (fun s => gmA C R M1 n s 0) (j + 1) = (gmA C R M1 n j 0, (j : Int)) by rw [ss j, if_pos (by rw [← q1]; exact h)]] at nx
            rw [q1]; exact nx
          · rw [show sbm (fun s => gmA C R M1 n s 0) (j + 1) = sbm (fun s => gmA C R M1 n s 0) j by rw [ss j, if_neg (by rw [← q1]; exact h)]] at nx; exact nx
    · exact zE_of (A := -1) hJ hk (zki_of rfl (Nat.le_of_ble_eq_true rfl) (SX9_tallest_0 ⟨h1, fun _ => ⟨rfl, fr1.rf⟩, fun _ => ⟨fun _ => ⟨rfl, fr1.rf⟩, fun _ => ⟨h2, fun _ => ⟨rfl, fr1.rf⟩, fun _ => ⟨fun h => by omega, fun _ => ⟨rfl, fr1.rf⟩⟩⟩⟩⟩)) (zki_of rfl (Nat.le_of_ble_eq_true rfl) (SX10_tallest_0 ⟨h1, fun _ => ⟨rfl, fr2.rf⟩, fun _ => ⟨h2, fun h => absurd h hw, fun _ => ⟨rfl, fr2.rf⟩⟩⟩))
  · exact zE_of (A := -1) hJ hk (zki_of rfl (Nat.le_of_ble_eq_true rfl) (SX9_tallest_0 ⟨h1, fun _ => ⟨rfl, fr1.rf⟩, fun _ => ⟨fun _ => ⟨rfl, fr1.rf⟩, fun h => by omega⟩⟩)) (zki_of rfl (Nat.le_of_ble_eq_true rfl) (SX10_tallest_0 ⟨h1, fun _ => ⟨rfl, fr2.rf⟩, fun h => absurd h hx⟩))
end GM
