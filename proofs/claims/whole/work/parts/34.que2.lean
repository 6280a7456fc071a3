section QC
variable {g g' : zG} {o o' : Bool} {M1 M2 N1 N2 : zM} {k C R c x y w A x1 x2 x3 x4 x5 : Int} {s : Nat} {H H' f f' : Int → Int} {d d' : zD} {as : List Value}
theorem zE_of (hJ : Jt k C R M1 M2) (hk : k < 1000) (h1 : zKi g (z1 o) d (zA g 1 :: as) M1 (fun r N => r = A ∧ fr1 M1 N)) (h2 : zKi g' (z2 o') d' (zA g' 1 :: as) M2 (fun r N => r = A ∧ fr2 M2 N)) : zE g g' o o' d d' as k M1 M2 :=
  ⟨_, _, h1, h2, fun r N1 r' N2 q q' => ⟨q.1.trans q'.1.symm, C, R, hJ.step hk q.2 q'.2⟩⟩
theorem Jt.lr (hJ : Jt k C R M1 M2) : zLand M1 C R ∧ zRf M2 C R := ⟨hJ.2.1.1, hJ.2.1.2.1⟩
theorem Jt.sok (hJ : Jt k C R M1 M2) : sOk M1 24 := (hJ.2.2.1.1.sd (hJ.2.2.1.2.mono (by have := hJ.1; omega) (by have := hJ.1; omega)))
theorem Jt.wq (hJ : Jt k C R M1 M2) : wnr M2 = wnd M1 := hJ.2.1.wq
theorem Jt.eh (hJ : Jt k C R M1 M2) : eq96 (M1 25) (M2 10) := hJ.2.2.1.1.1
theorem Jt.eg (hJ : Jt k C R M1 M2) : ∀ i : Int, 0 ≤ i → i < 96 → M1 26 i = M2 10 (96 + i) := hJ.2.2.1.1.2.1
theorem Jt.er (hJ : Jt k C R M1 M2) : ∀ i : Int, 0 ≤ i → i < 4 → M1 27 i = M2 10 (192 + i) := hJ.2.2.1.1.2.2.1
theorem Jt.es (hJ : Jt k C R M1 M2) : M1 24 3 = M2 10 196 ∧ M1 24 4 = M2 10 197 := hJ.2.2.1.1.2.2.2
theorem Jt.ok (hJ : Jt k C R M1 M2) : rOK C R 1000000 1000000 (M2 10) := hJ.2.2.1.2.mono (by have := hJ.1; omega) (by have := hJ.1; omega)
/-- behind goesOn -/
theorem Jt.go (hJ : Jt k C R M1 M2) (e : eqr (M2 10) (N2 11)) (hb : ∀ b : Nat, b ≠ 1 → b ≠ 11 → N2 b = M2 b) : zRf N2 C R ∧ rOk N2 ∧ eq96 (N2 11) (M2 10) ∧ (∀ i : Int, 0 ≤ i → i < 198 → N2 11 i = M2 10 i) ∧ wnr N2 = wnr M2 :=
  ⟨hJ.lr.2.of (hb 3 (by decide) (by decide)) (hb 4 (by decide) (by decide)) (hb 5 (by decide) (by decide)), hJ.ok.rf e, fun i h0 h1 => (e i h0 (by omega)).symm, fun i h0 h1 => (e i h0 h1).symm, wnr_of (hb 3 (by decide) (by decide)) (hb 4 (by decide) (by decide)) (hb 5 (by decide) (by decide))⟩
theorem go_fr {M N : zM} (hb : ∀ b : Nat, b ≠ 1 → b ≠ 11 → N b = M b) (h1 : ∀ i : Int, i ≠ 23 → i ≠ 24 → i ≠ 25 → N 1 i = M 1 i) : fr2 M N :=
  fr2_of (l := [11]) (fs := [23, 24, 25]) (fun b p q => hb b p (fun e => q (by rw [e]; decide))) (fun i hi => h1 i (fun e => hi (by rw [e]; decide)) (fun e => hi (by rw [e]; decide)) (fun e => hi (by rw [e]; decide))) rfl rfl
theorem p_fault (hJ : Jt k C R M1 M2) (hk : k < 1000) (hx : -2147483648 ≤ x1 ∧ x1 ≤ 2147483647) : zE g g' o o' mX9_fault mX10_fault [zI x1] k M1 M2 := by
  have f0 : M1 7 2 = M2 1 9 := hJ.2.2.2.2.2.2.2.2.2.2.1
  have f1 : M1 7 3 = M2 1 10 := hJ.2.2.2.2.2.2.2.2.2.2.2.1
  refine zE_of (A := if x1 = 0 then M2 1 9 else if x1 = 1 then M2 1 10 else -1) hJ hk (zki_of rfl (Nat.le_of_ble_eq_true rfl) (SX9_fault_0 ⟨hx, fun h => ⟨?_, fr1.rf⟩, fun h => ⟨?_, fr1.rf⟩, fun h => ⟨?_, fr1.rf⟩⟩)) (zki_of rfl (Nat.le_of_ble_eq_true rfl) (SX10_fault_0 ⟨hx, fun h => ⟨fun h' => ⟨?_, fr2.rf⟩, fun h' => ⟨?_, fr2.rf⟩⟩, fun h => ⟨?_, fr2.rf⟩⟩))
  · rw [if_pos h, f0]
  · rw [if_neg (by omega), if_pos h, f1]
  · rw [if_neg h.1, if_neg h.2]
  · rw [if_neg h, if_neg h']
  · rw [if_neg h, if_pos h']
  · rw [if_pos h]
theorem p_beside (hJ : Jt k C R M1 M2) (hk : k < 1000) (h1 : -2147483648 ≤ x1 ∧ x1 ≤ 2147483647) (h2 : -2147483648 ≤ x2 ∧ x2 ≤ 2147483647) : zE g g' o o' mX9_beside mX10_beside [zI x1, zI x2] k M1 M2 := by
  obtain ⟨hL, hR⟩ := hJ.lr
  refine zE_of (A := if (0 ≤ x1 ∧ x1 < C * R) ∧ 0 ≤ x2 ∧ x2 ≤ 3 then alg C R x1 x2 1 else -1) hJ hk (zki_of rfl (Nat.le_of_ble_eq_true rfl) (SX9_beside_0 (C := C) (R := R) ⟨h1, hL, fun h => ⟨?_, fr1.rf⟩, fun h => ⟨h2, fun h' => ⟨?_, fr1.rf⟩, fun h' => ⟨fun h'' => ⟨h, by omega, ?_, fr1.rf⟩, fun h'' => ⟨?_, fr1.rf⟩⟩⟩⟩)) (zki_of rfl (Nat.le_of_ble_eq_true rfl) (SX10_beside_0 (C := C) (R := R) ⟨hR, h1, fun h => ⟨?_, fr2.rf⟩, fun h => ⟨h2, fun h' => ⟨?_, fr2.rf⟩, fun h' => ⟨h, h', ?_, fr2.rf⟩⟩⟩))
  · rw [if_neg (fun q => h q.1)]
  · rw [if_neg (by omega)]
  · rw [if_pos ⟨h, by omega⟩]
  · rw [if_neg (by omega)]
  · rw [if_neg (fun q => h q.1)]
  · rw [if_neg (fun q => h' q.2)]
  · rw [if_pos ⟨h, h'⟩]
theorem p_wind (hJ : Jt k C R M1 M2) (hk : k < 1000) (h1 : -2147483648 ≤ x1 ∧ x1 ≤ 2147483647) : zE g g' o o' mX9_wind mX10_wind [zI x1] k M1 M2 := by
  obtain ⟨hL, hR⟩ := hJ.lr
  have t := hJ.ok.2.2.2.2.2.2.2.1
  have e := hJ.es.2
  refine zE_of (A := if 0 ≤ x1 ∧ x1 ≤ 9999 then wnr M2 (M2 10 197 + x1) else -1) hJ hk (zki_of rfl (Nat.le_of_ble_eq_true rfl) (SX9_wind_0 (C := C) (R := R) ⟨h1, fun h => ⟨?_, fr1.rf⟩, fun h => ⟨fun h' => ⟨hL, by omega, ?_, fr1.rf⟩, fun h' => ⟨?_, fr1.rf⟩⟩⟩)) (zki_of rfl (Nat.le_of_ble_eq_true rfl) (SX10_wind_0 (C := C) (R := R) ⟨h1, fun h => ⟨?_, fr2.rf⟩, fun h => ⟨hR, by omega, ?_, fr2.rf⟩⟩))
  · rw [if_neg (by omega)]
  · rw [if_pos (by omega), hJ.wq, e]
  · rw [if_neg (by omega)]
  · rw [if_neg h]
  · rw [if_pos h]
/-- the pieces again -/
theorem Jt.next (hJ : Jt k C R M1 M2) (hk : k < 1000) (a1 : jL C R N1 N2) (a2 : jN (3000 + 600 * (k + 1)) (600 * (k + 1)) C R N1 N2) (a3 : jT C R N1 N2) (a4 : jH (3000 + 600 * (k + 1)) (600 * (k + 1)) C R N1 N2) (a5 : jB (3000 + 600 * (k + 1)) (600 * (k + 1)) C R N1 N2) (a6 : jS C R N1 N2) (a7 : jP N1 N2) (a8 : jC N1 N2) : Jt (k + 1) C R N1 N2 := ⟨by have := hJ.1; omega, a1, a2, a3, a4, a5, a6, a7, a8⟩
theorem p_end (hJ : Jt k C R M1 M2) (hk : k < 1000) (h1 : -2147483648 ≤ x1 ∧ x1 ≤ 2147483647) : zE g g' o o' mX9_end mX10_end [zI x1] k M1 M2 := by
  obtain ⟨e1, e2, e3⟩ := hJ.2.2.2.2.2.2.2.1
  refine ⟨fun r N => (0 ≤ x1 ∧ x1 ≤ M2 1 1 ∧ r = x1 ∧ N = zu M1 2 1 x1) ∨ (¬ (0 ≤ x1 ∧ x1 ≤ M2 1 1) ∧ r = -1 ∧ N = M1), fun r N => (0 ≤ x1 ∧ x1 ≤ M2 1 1 ∧ r = x1 ∧ N = zu M2 1 1 x1) ∨ (¬ (0 ≤ x1 ∧ x1 ≤ M2 1 1) ∧ r = -1 ∧ N = M2), zki_of rfl (Nat.le_of_ble_eq_true rfl) (SX9_end_0 ⟨h1, fun h => Or.inr ⟨by omega, rfl, rfl⟩, fun h => ⟨by omega, fun h' => Or.inl ⟨by omega, by omega, rfl, rfl⟩, fun h' => Or.inr ⟨by omega, rfl, rfl⟩⟩⟩), zki_of rfl (Nat.le_of_ble_eq_true rfl) (SX10_end_0 ⟨h1, by omega, fun h => Or.inl ⟨h.1, h.2, rfl, rfl⟩, fun h => Or.inr ⟨h, rfl, rfl⟩⟩), fun r N1 r' N2 q q' => ?_⟩
  rcases q with ⟨a, b, c, d⟩ | ⟨a, c, d⟩
  · rcases q' with ⟨a', b', c', d'⟩ | ⟨a', c', d'⟩
    · refine ⟨by omega, C, R, ?_⟩
      have h0 := hJ
      obtain ⟨a0, a1, a2, a3, a4, a5, a6, a7, a8⟩ := hJ
      have n1 : ∀ b : Nat, b ≠ 2 → N1 b = M1 b := fun b hb => by rw [d, zu_other hb]
      have n2 : ∀ b : Nat, b ≠ 1 → N2 b = M2 b := fun b hb => by rw [d', zu_other hb]
      have n3 : ∀ i : Int, i ≠ 1 → N2 1 i = M2 1 i := fun i hi => by rw [d', zu_row, if_neg hi]
      refine h0.next hk (a1.fr (fun b p q => n1 b (by omega)) (fun b p q => n2 b (by omega))) (a2.fr (fun b p q => n1 b (by omega)) (n2 10 (by decide)) (by omega) (by omega)) (a3.fr (fun b p q => n1 b (by omega)) (n2 3 (by decide)) (n2 7 (by decide)) (n2 8 (by decide)))
        (a4.fr (fun b p q => n1 b (by omega)) (n2 10 (by decide)) (n2 12 (by decide)) (n3 28 (by decide)) (n3 29 (by decide)) (by omega) (by omega)) (a5.fr (fun b p q => n1 b (by omega)) (n2 16 (by decide)) (n2 17 (by decide)) (by omega) (by omega))
        (a6.fr (fun b p q => n1 b (by omega)) (fun b p q => n2 b (by omega)) (fun b p q => n2 b (by omega)) (n2 7 (by decide)) (n2 8 (by decide)) (n3 42 (by decide))) ⟨?_, ?_, fun i h0 h1 => ?_⟩ (a8.fr (by rw [n1 1 (by decide)]) (by rw [n1 7 (by decide)]) (by rw [n1 7 (by decide)]) (n3 43 (by decide)) (n3 9 (by decide)) (n3 10 (by decide)) (n3 26 (by decide)))
      · rw [d, d', zu_at, zu_at]
      · rw [d', zu_at]; omega
      · rw [d', zu_at] at h1
        rw [n1 3 (by decide), n2 2 (by decide)]
        exact e3 i h0 (by omega)
    · exact absurd ⟨a, b⟩ a'
  · rcases q' with ⟨a', b', c', d'⟩ | ⟨a', c', d'⟩
    · exact absurd ⟨a', b'⟩ a
    · exact ⟨by omega, C, R, hJ.step hk (by rw [d]; exact fr1.rf) (by rw [d']; exact fr2.rf)⟩
theorem p_later (hJ : Jt k C R M1 M2) (hk : k < 1000) (h1 : -2147483648 ≤ x1 ∧ x1 ≤ 2147483647) : zE g g' o o' mX9_later mX10_later [zI x1] k M1 M2 := by
  obtain ⟨e1, e2, e3, e4, e5⟩ := hJ.2.2.2.2.2.2.2.2
  refine ⟨fun r N => (0 ≤ x1 ∧ x1 ≤ 1000 ∧ M2 1 43 + x1 ≤ 100000 ∧ r = M2 1 43 + x1 ∧ N = zu M1 1 15 (M2 1 43 + x1)) ∨ (¬ (0 ≤ x1 ∧ x1 ≤ 1000 ∧ M2 1 43 + x1 ≤ 100000) ∧ r = -1 ∧ N = M1), fun r N => (0 ≤ x1 ∧ x1 ≤ 1000 ∧ M2 1 43 + x1 ≤ 100000 ∧ r = M2 1 43 + x1 ∧ N = zu M2 1 43 (M2 1 43 + x1)) ∨ (¬ (0 ≤ x1 ∧ x1 ≤ 1000 ∧ M2 1 43 + x1 ≤ 100000) ∧ r = -1 ∧ N = M2), zki_of rfl (Nat.le_of_ble_eq_true rfl) (SX9_later_0 ⟨h1, fun h => Or.inr ⟨by omega, rfl, rfl⟩, fun h => ⟨fun h' => Or.inr ⟨by omega, rfl, rfl⟩, fun h' => ⟨by omega, fun h'' => Or.inl ⟨by omega, by omega, by omega, by rw [zu_at, e1], by rw [e1]⟩, fun h'' => Or.inr ⟨by omega, rfl, rfl⟩⟩⟩⟩), zki_of rfl (Nat.le_of_ble_eq_true rfl) (SX10_later_0 ⟨h1, fun h => Or.inr ⟨by omega, rfl, rfl⟩, fun h => ⟨by omega, fun h' => Or.inl ⟨h.1, h.2, h', by rw [zu_at], rfl⟩, fun h' => Or.inr ⟨by omega, rfl, rfl⟩⟩⟩), fun r N1 r' N2 q q' => ?_⟩
  rcases q with ⟨a, b, b2, c, d⟩ | ⟨a, c, d⟩
  · rcases q' with ⟨a', b', b2', c', d'⟩ | ⟨a', c', d'⟩
    · refine ⟨by omega, C, R, ?_⟩
      have h0 := hJ
      obtain ⟨a0, a1, a2, a3, a4, a5, a6, a7, a8⟩ := hJ
      have n1 : ∀ b : Nat, b ≠ 1 → N1 b = M1 b := fun b hb => by rw [d, zu_other hb]
      have n2 : ∀ b : Nat, b ≠ 1 → N2 b = M2 b := fun b hb => by rw [d', zu_other hb]
      have n3 : ∀ i : Int, i ≠ 43 → N2 1 i = M2 1 i := fun i hi => by rw [d', zu_row, if_neg hi]
      refine h0.next hk (a1.fr (fun b p q => n1 b (by omega)) (fun b p q => n2 b (by omega))) (a2.fr (fun b p q => n1 b (by omega)) (n2 10 (by decide)) (by omega) (by omega)) (a3.fr (fun b p q => n1 b (by omega)) (n2 3 (by decide)) (n2 7 (by decide)) (n2 8 (by decide)))
        (a4.fr (fun b p q => n1 b (by omega)) (n2 10 (by decide)) (n2 12 (by decide)) (n3 28 (by decide)) (n3 29 (by decide)) (by omega) (by omega)) (a5.fr (fun b p q => n1 b (by omega)) (n2 16 (by decide)) (n2 17 (by decide)) (by omega) (by omega))
        (a6.fr (fun b p q => n1 b (by omega)) (fun b p q => n2 b (by omega)) (fun b p q => n2 b (by omega)) (n2 7 (by decide)) (n2 8 (by decide)) (n3 42 (by decide))) (a7.fr (by rw [n1 2 (by decide)]) (n1 3 (by decide)) (n2 2 (by decide)) (n3 1 (by decide))) ⟨?_, ?_, by rw [n1 7 (by decide), n3 9 (by decide)]; exact e3, by rw [n1 7 (by decide), n3 10 (by decide)]; exact e4, by rw [n3 26 (by decide)]; exact e5⟩
      · rw [d, d', zu_at, zu_at]
      · rw [d', zu_at]; omega
    · exact absurd ⟨a, b, b2⟩ a'
  · rcases q' with ⟨a', b', b2', c', d'⟩ | ⟨a', c', d'⟩
    · exact absurd ⟨a', b', b2'⟩ a
    · exact ⟨by omega, C, R, hJ.step hk (by rw [d]; exact fr1.rf) (by rw [d']; exact fr2.rf)⟩
theorem p_untell (hJ : Jt k C R M1 M2) (hk : k < 1000) (h1 : -2147483648 ≤ x1 ∧ x1 ≤ 2147483647) : zE g g' o o' mX9_untell mX10_untell [zI x1] k M1 M2 := by
  obtain ⟨n, s1, s2, s3, s4⟩ := hJ.2.2.2.2.2.2.1
  obtain ⟨e1, e2, -⟩ := hJ.2.2.2.2.2.2.2.2
  have tb : zKi g (z1 o) mX6_takeBack [zA g 122, zI x1, zI (M1 1 15)] M1 (fun r N => (0 ≤ x1 ∧ x1 < n ∧ M2 23 x1 = -1 ∧ r = 1 ∧ N = zu M1 124 x1 (M2 1 43)) ∨ (¬ (0 ≤ x1 ∧ x1 < n ∧ M2 23 x1 = -1) ∧ r = 0 ∧ N = M1)) := by
    refine zki_of rfl (Nat.le_of_ble_eq_true rfl) (SX6_takeBack_0 ⟨h1, fun h => Or.inr ⟨by omega, rfl, rfl⟩, fun h => ⟨by omega, fun h' => Or.inr ⟨by omega, rfl, rfl⟩, fun h' => ?_⟩⟩)
    obtain ⟨-, -, q1, q2, -⟩ := s4 x1 (by omega) (by omega)
    exact ⟨by omega, by omega, fun h'' => Or.inl ⟨by omega, by omega, by omega, rfl, by rw [e1]⟩, fun h'' => Or.inr ⟨by omega, rfl, rfl⟩⟩
  refine ⟨_, fun r N => (0 ≤ x1 ∧ x1 < n ∧ M2 23 x1 = -1 ∧ r = 1 ∧ N = zu M2 23 x1 (M2 1 43)) ∨ (¬ (0 ≤ x1 ∧ x1 < n ∧ M2 23 x1 = -1) ∧ r = 0 ∧ N = M2), zki_of rfl (Nat.le_of_ble_eq_true rfl) (SX9_untell_0 ⟨_, tb, fun r2 M3 hq => ⟨?_, hq⟩⟩), zki_of rfl (Nat.le_of_ble_eq_true rfl) (SX10_untell_0 ⟨h1, by omega, fun h => Or.inr ⟨by omega, rfl, rfl⟩, fun h => ?_⟩), fun r N1 r' N2 q q' => ?_⟩
  · rcases hq with ⟨-, -, -, h, -⟩ | ⟨-, h, -⟩ <;> omega
  · obtain ⟨-, -, q1, q2, -⟩ := s4 x1 (by omega) (by omega)
    exact ⟨by omega, by omega, fun h' => Or.inl ⟨h.1, by omega, h', rfl, rfl⟩, fun h' => Or.inr ⟨fun q => h' q.2.2, rfl, rfl⟩⟩
  rcases q with ⟨a, b, b2, c, d⟩ | ⟨a, c, d⟩
  · rcases q' with ⟨a', b', b2', c', d'⟩ | ⟨a', c', d'⟩
    · refine ⟨by omega, C, R, ?_⟩
      have h0 := hJ
      obtain ⟨a0, a1, a2, a3, a4, a5, a6, a7, a8⟩ := hJ
      have n1 : ∀ b : Nat, b ≠ 124 → N1 b = M1 b := fun b hb => by rw [d, zu_other hb]
      have n2 : ∀ b : Nat, b ≠ 23 → N2 b = M2 b := fun b hb => by rw [d', zu_other hb]
      have n3 : ∀ i : Int, N2 1 i = M2 1 i := fun i => by rw [n2 1 (by decide)]
      refine h0.next hk (a1.fr (fun b p q => n1 b (by omega)) (fun b p q => n2 b (by omega))) (a2.fr (fun b p q => n1 b (by omega)) (n2 10 (by decide)) (by omega) (by omega)) (a3.fr (fun b p q => n1 b (by omega)) (n2 3 (by decide)) (n2 7 (by decide)) (n2 8 (by decide)))
        (a4.fr (fun b p q => n1 b (by omega)) (n2 10 (by decide)) (n2 12 (by decide)) (n3 28) (n3 29) (by omega) (by omega)) (a5.fr (fun b p q => n1 b (by omega)) (n2 16 (by decide)) (n2 17 (by decide)) (by omega) (by omega))
        ⟨n, by rw [n1 122 (by decide)]; exact s1, by rw [n3]; exact s2, s3, fun i h0 h1 => ?_⟩ (a7.fr (by rw [n1 2 (by decide)]) (n1 3 (by decide)) (n2 2 (by decide)) (n3 1)) (a8.fr (by rw [n1 1 (by decide)]) (by rw [n1 7 (by decide)]) (by rw [n1 7 (by decide)]) (n3 43) (n3 9) (n3 10) (n3 26))
      obtain ⟨r1, r2, r3, r4, r5, r6, r7, r8, r9, r10⟩ := s4 i h0 h1
      have ht := tld_of (N2 := N2) (M2 := M2) (n2 3 (by decide)) (n2 7 (by decide)) (n2 8 (by decide))
      have hw := wnr_of (M' := N2) (M := M2) (n2 3 (by decide)) (n2 4 (by decide)) (n2 5 (by decide))
      unfold sFit
      rw [ht, hw, n1 123 (by decide), n1 125 (by decide), n2 18 (by decide), n2 19 (by decide), n2 20 (by decide), n2 21 (by decide), n2 22 (by decide), n2 3 (by decide)]
      refine ⟨r1, r2, ?_, ?_, r5, r6, r7, r8, r9, r10⟩
      · rw [d, d', zu_row, zu_row, r3]
      · rw [d', zu_row]; split
        · omega
        · exact r4
    · exact absurd ⟨a, b, b2⟩ a'
  · rcases q' with ⟨a', b', b2', c', d'⟩ | ⟨a', c', d'⟩
    · exact absurd ⟨a', b', b2'⟩ a
    · exact ⟨by omega, C, R, hJ.step hk (by rw [d]; exact fr1.rf) (by rw [d']; exact fr2.rf)⟩
theorem Jt.sw (hJ : Jt k C R M1 M2) : M1 14 0 = C ∧ M1 14 1 = R ∧ M1 14 2 = C * R ∧ M2 3 5 = M1 14 3 ∧ smt (M2 5) (M2 3 9).toNat = M1 14 5 := by
  obtain ⟨hL, hR, h1, h2, h3⟩ := hJ.2.1
  refine ⟨hL.2.1, hL.2.2.1, hL.2.2.2.1, h1, ?_⟩
  rw [hL.2.2.2.2.2.2.1, h2]
  have := hL.2.2.2.2.2.1
  exact smt_congr (fun i p q => (h3 i p (by omega)).2)
theorem p_about (hJ : Jt k C R M1 M2) (hk : k < 1000) (h1 : -2147483648 ≤ x1 ∧ x1 ≤ 2147483647) : zE g g' o o' mX9_about mX10_about [zI x1] k M1 M2 := by
  obtain ⟨hL, hR⟩ := hJ.lr
  have hn := geo_n hL.1
  obtain ⟨w0, w1, w2, w3, w4⟩ := hJ.sw
  have er := hJ.er
  have es := hJ.es
  have hgr : smt (M1 26) (C * R).toNat = smt (fun i => M2 10 (96 + i)) (C * R).toNat := smt_congr (fun i p q => hJ.eg i p (by omega))
  obtain ⟨p, d, u, a1, a2, a3, a4, -⟩ := hJ.2.2.2.2.1
  obtain ⟨n, s1, s2, -⟩ := hJ.2.2.2.2.2.2.1
  have e1 : M1 1 15 = M2 1 43 := hJ.2.2.2.2.2.2.2.2.1
  have e2 : M1 2 1 = M2 1 1 := hJ.2.2.2.2.2.2.2.1.1
  have r0 := er 0 (by decide) (by decide)
  have r1 := er 1 (by decide) (by decide)
  have r2 := er 2 (by decide) (by decide)
  have r3 := er 3 (by decide) (by decide)
  have key : zE g g' o o' mX9_about mX10_about [zI x1] k M1 M2 := by
    refine zE_of (A := if x1 = 0 then C else if x1 = 1 then R else if x1 = 2 then C * R else if x1 = 3 then M2 10 196 else if x1 = 4 then M2 10 197 else if x1 = 5 then M2 10 192 else if x1 = 6 then M2 10 193 else if x1 = 7 then M2 3 5 else if x1 = 8 then M2 10 194 else if x1 = 9 then M2 10 195 else if x1 = 10 then smt (fun i => M2 10 (96 + i)) (C * R).toNat else if x1 = 11 then smt (M2 5) (M2 3 9).toNat else if x1 = 12 then M2 1 28 else if x1 = 13 then M2 1 29 else if x1 = 14 then M2 1 42 else if x1 = 15 then M2 1 43 else if x1 = 16 then M2 1 1 else -1) hJ hk (zki_of rfl (Nat.le_of_ble_eq_true rfl) (SX9_about_0 (C := C) (R := R) ?_)) (zki_of rfl (Nat.le_of_ble_eq_true rfl) (SX10_about_0 (C := C) (R := R) ?_))
    · refine ⟨h1, fun h => ⟨?_, fr1.rf⟩, fun h => ⟨?_, fr1.rf⟩, fun h => ⟨?_, fr1.rf⟩, fun h => ⟨?_, fr1.rf⟩, fun h => ⟨?_, fr1.rf⟩, fun h => ⟨?_, fr1.rf⟩, fun h => ⟨?_, fr1.rf⟩, fun h => ⟨?_, fr1.rf⟩, fun h => ⟨?_, fr1.rf⟩, fun h => ⟨?_, fr1.rf⟩, fun h => ⟨hL, hJ.sok, ?_, fr1.rf⟩, fun h => ⟨?_, fr1.rf⟩, fun h => ⟨?_, fr1.rf⟩, fun h => ⟨?_, fr1.rf⟩, fun h => ⟨?_, fr1.rf⟩, fun h => ⟨?_, fr1.rf⟩, fun h => ⟨?_, fr1.rf⟩, fun h => ⟨?_, fr1.rf⟩⟩
      all_goals first | (subst h; simp only [if_true, Int.reduceEq, if_false, hgr, w0, w1, w2, ← w3, w4, es.1, es.2, r0, r1, r2, r3, a1, a2, a3, a4, s1, s2, e1, e2]; done) | (subst h; simp only [if_true, Int.reduceEq, if_false, hgr, w0, w1, w2, ← w3, w4, es.1, es.2, r0, r1, r2, r3, a1, a2, a3, a4, s1, s2, e1, e2]; rfl) | (repeat rw [if_neg (by omega)])
    · refine ⟨h1, fun h => ⟨hR, ?_, fr2.rf⟩, fun h => ⟨hR, ?_, fr2.rf⟩, fun h => ⟨hR, ?_, fr2.rf⟩, fun h => ⟨?_, fr2.rf⟩, fun h => ⟨?_, fr2.rf⟩, fun h => ⟨?_, fr2.rf⟩, fun h => ⟨?_, fr2.rf⟩, fun h => ⟨?_, fr2.rf⟩, fun h => ⟨?_, fr2.rf⟩, fun h => ⟨?_, fr2.rf⟩, fun h => ⟨hR, ?_, fr2.rf⟩, fun h => ⟨hR, ?_, fr2.rf⟩, fun h => ⟨?_, fr2.rf⟩, fun h => ⟨?_, fr2.rf⟩, fun h => ⟨?_, fr2.rf⟩, fun h => ⟨?_, fr2.rf⟩, fun h => ⟨?_, fr2.rf⟩, fun h => ⟨?_, fr2.rf⟩⟩
      all_goals first | (subst h; simp only [if_true, Int.reduceEq, if_false]; done) | (repeat rw [if_neg (by omega)])
  exact key
end QC
