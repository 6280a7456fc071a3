/-! what was seen: heights by a seed from the field as told -/
noncomputable def tdH (C R : Int) (M2 : zM) (n : Nat) (sd : Int) : Int → Int := (blR C R (M2 3 5) (wnr M2) (tld M2 sd) n).1.1
/-- all that counts as known at k is so by a seed -/
noncomputable def FPs (C R : Int) (M2 : zM) (k s : Int) : Prop := ∀ i : Int, 0 ≤ i → i < M2 1 42 → dct M2 i k → sFit C R M2 i s
section SN
variable {g g' : zG} {o o' : Bool} {M M' M1 M2 N N' N1 N2 A : zM} {k C R c d m x y h is kk sd x1 x2 x3 x4 S hop sh st bt B T t : Int} {n s : Nat} {wd G : Int → Int}
theorem tld_nw {i : Int} (h : i ≠ 196) : tld M sd i = tld M x i := by unfold tld; simp only [if_neg h]
theorem blw_last (n : Nat) (z : Sx) : blwS C R S wd G hop sh st bt (n + 1) z = tryS C R S wd G hop sh st bt (blwS C R S wd G hop sh st bt n z) := by
  induction n generalizing z with
  | zero => rfl
  | succ n ih => exact ih (tryS C R S wd G hop sh st bt z)
theorem Jt.tok (hJ : Jt k C R M1 M2) (hf : fr1 M1 N) : SandOK N 20 3000 0 := by
  have h := hJ.2.2.2.1.1.sd hJ.2.2.2.1.2
  unfold SandOK at h ⊢
  rw [show N (20 + 1) = M1 (20 + 1) from hf.1 21 rfl, show N (20 + 2) = M1 (20 + 2) from hf.1 22 rfl, show N (20 + 3) = M1 (20 + 3) from hf.1 23 rfl, hf.1 20 rfl]
  exact h
theorem Jt.tdq (hJ : Jt k C R M1 M2) (hf : fr1 M1 N) (hq : zgx N' 34 28 = trS C R N 20 sd n) : eq96 (N' 29) (tdH C R M2 n sd) := by
  have hG := hJ.lr.1.1
  obtain ⟨t1, t2, t3, t4, t5⟩ := hJ.2.2.2.1.1
  have e29 : N' 29 = (trS C R N 20 sd n).1.1 := congrArg (fun z : Sx => z.1.1) hq
  rw [e29]
  have e14 : N 14 3 = M2 3 5 := by rw [hf.1 14 rfl]; exact hJ.sw.2.2.2.1.symm
  have ew : wnd N = wnr M2 := by rw [hJ.wq]; exact wnd_congr (hf.1 14 rfl) (hf.1 18 rfl) (hf.1 19 rfl)
  have r0 : N (20 + 3) 0 = tld M2 sd 192 := by rw [show N (20 + 3) = M1 (20 + 3) from hf.1 23 rfl]; exact t3 0 (by decide) (by decide)
  have r1 : N (20 + 3) 1 = tld M2 sd 193 := by rw [show N (20 + 3) = M1 (20 + 3) from hf.1 23 rfl]; exact t3 1 (by decide) (by decide)
  have r2 : N (20 + 3) 2 = tld M2 sd 194 := by rw [show N (20 + 3) = M1 (20 + 3) from hf.1 23 rfl]; exact t3 2 (by decide) (by decide)
  have r3 : N (20 + 3) 3 = tld M2 sd 195 := by rw [show N (20 + 3) = M1 (20 + 3) from hf.1 23 rfl]; exact t3 3 (by decide) (by decide)
  have hx : xeq (tgx N 20 sd) (x0 (tld M2 sd)) := by
    refine ⟨fun i a b => ?_, ?_⟩
    · show zcpy (N (20 + 1)) (N 29) 0 0 96 i = tld M2 sd i
      rw [zcpy_eq a b, show N (20 + 1) = M1 (20 + 1) from hf.1 21 rfl, t1 i a b]
      exact tld_nw (by omega)
    · show ((sd, N 20 4) : Int × Int) = (tld M2 sd 196, tld M2 sd 197)
      rw [hf.1 20 rfl, t5]; rfl
  have hg : eq96 (tgG N 20) (fun i => tld M2 sd (96 + i)) := fun i a b => by
    show zcpy (N (20 + 2)) (N 30) 0 0 96 i = tld M2 sd (96 + i)
    rw [zcpy_eq a b, show N (20 + 2) = M1 (20 + 2) from hf.1 22 rfl, t2 i a b]
    exact tld_nw (by omega)
  have key := blw_eq (S := M2 3 5) (wd := wnr M2) (hop := tld M2 sd 192) (sh := tld M2 sd 193) (st := tld M2 sd 194) (bt := tld M2 sd 195) hG n hx hg
  unfold trS tdH blR
  rw [e14, ew, r0, r1, r2, r3]
  exact key.2.1
theorem Jt.sdf (hJ : Jt k C R M1 M2) (hn : n ≤ 200) (hc : 0 ≤ c ∧ c < C * R) (hh : 0 ≤ h ∧ h ≤ 2147483647) (hi : is = 0 ∨ is = 1) : zKl g (z1 o) mX6_seedsFor [zA g 122, zI n, zI c, zI h, zI is] M1 (fun r N => ∃ x : Nat, r = x ∧ x < 2 ^ 50 ∧ (∀ s : Nat, s < 50 → (x.testBit s = true ↔ ((h ≤ tdH C R M2 n s c) ↔ is = 1))) ∧ fr1 M1 N) := by
  have hL := hJ.lr.1
  have hgn := geo_n hL.1
  refine zkl_of rfl (Nat.le_of_ble_eq_true rfl) (SX6_seedsFor_0 ?_)
  suffices hs : ∀ (i j x : Nat) (N : zM), j + i = 50 → fr1 M1 N → x < 2 ^ j → (∀ s : Nat, s < 50 → (x.testBit s = true ↔ (s < j ∧ ((h ≤ tdH C R M2 n s c) ↔ is = 1)))) → zT g (z1 o) mX6_seedsFor (zQl (z1 o) (fun r N => ∃ x : Nat, r = x ∧ x < 2 ^ 50 ∧ (∀ s : Nat, s < 50 → (x.testBit s = true ↔ ((h ≤ tdH C R M2 n s c) ↔ is = 1))) ∧ fr1 M1 N)) 6 [(0, zA g 122), (1, zI n), (2, zI c), (3, zI h), (4, zI is), (5, zL x), (7, zI j)] [] N from hs 50 0 0 M1 rfl fr1.rf (by decide) (fun s _ => ⟨fun q => by rw [Nat.zero_testBit] at q; exact absurd q (by decide), fun q => by omega⟩)
  intro i
  induction i with
  | zero =>
    intro j x N hj hf hx hb
    have e50 : j = 50 := by omega
    subst e50
    exact SX6_seedsFor_6 ⟨by omega, fun _ => ⟨x, rfl, hx, fun s hs => ⟨fun q => ((hb s hs).mp q).2, fun q => (hb s hs).mpr ⟨hs, q⟩⟩, hf⟩, fun h => by omega⟩
  | succ i ih =>
    intro j x N hj hf hx hb
    have hp1 : 2 ^ j < 2 ^ (j + 1) := Nat.pow_lt_pow_right (by decide) (by omega)
    have hp2 : 2 ^ j ≤ 2 ^ 49 := Nat.pow_le_pow_right (by decide) (by omega)
    refine SX6_seedsFor_6 ⟨by omega, fun h => by omega, fun _ => ⟨_, c_startFrom (show zSd 20 by unfold zSd; decide) (by decide), fun M4 hq => ⟨_, start_post (hf.Ld hL) (hJ.tok hf) (by omega) hq (by omega) (by decide) (by decide), fun r M9 hp => ?_⟩⟩⟩
    have e : M9 29 c = tdH C R M2 n j c := hJ.tdq hf hp.2.1 c hc.1 (by omega)
    have b : 0 ≤ M9 29 c ∧ M9 29 c ≤ 3000 + n := hp.2.2.2.1 c hc.1 (by omega)
    have f9 : fr1 M1 M9 := hf.trans (hp.2.2.1.fr1 rfl)
    have ev : Int.toNat (x : Int) ||| Int.toNat (1 * ((2 ^ Int.toNat (j : Int) : Nat) : Int)) = x ||| 2 ^ j := by rw [Int.toNat_natCast, Int.toNat_natCast, Int.one_mul, Int.toNat_natCast]
    have pw : (0 : Int) ≤ 1 * ((2 ^ Int.toNat (j : Int) : Nat) : Int) ∧ 1 * ((2 ^ Int.toNat (j : Int) : Nat) : Int) ≤ (9223372036854775807 : Int) := by
      rw [Int.toNat_natCast, Int.one_mul]
      obtain ⟨p, hp⟩ : ∃ p : Nat, p = 2 ^ j := ⟨_, rfl⟩
      rw [← hp] at hp2 ⊢; omega
    have hx50 : x < 2 ^ 49 := Nat.lt_of_lt_of_le hx hp2
    have no : ¬ ((h ≤ tdH C R M2 n j c) ↔ is = 1) → zT g (z1 o) mX6_seedsFor (zQl (z1 o) (fun r N => ∃ x : Nat, r = x ∧ x < 2 ^ 50 ∧ (∀ s : Nat, s < 50 → (x.testBit s = true ↔ ((h ≤ tdH C R M2 n s c) ↔ is = 1))) ∧ fr1 M1 N)) 6 [(0, zA g 122), (1, zI n), (2, zI c), (3, zI h), (4, zI is), (5, zL x), (7, zI ((j : Int) + 1))] [] M9 := fun z => by
      refine ih (j + 1) x M9 (by omega) f9 (by omega) (fun s hs => ?_)
      rw [hb s hs]
      by_cases q : s = j
      · subst q; exact ⟨fun w => by omega, fun w => absurd w.2 z⟩
      · exact ⟨fun w => ⟨by omega, w.2⟩, fun w => ⟨by omega, w.2⟩⟩
    have yes : ((h ≤ tdH C R M2 n j c) ↔ is = 1) → zT g (z1 o) mX6_seedsFor (zQl (z1 o) (fun r N => ∃ x : Nat, r = x ∧ x < 2 ^ 50 ∧ (∀ s : Nat, s < 50 → (x.testBit s = true ↔ ((h ≤ tdH C R M2 n s c) ↔ is = 1))) ∧ fr1 M1 N)) 6 [(0, zA g 122), (1, zI n), (2, zI c), (3, zI h), (4, zI is), (5, zL ((x ||| 2 ^ j : Nat) : Int)), (7, zI ((j : Int) + 1))] [] M9 := fun z => by
      refine ih (j + 1) (x ||| 2 ^ j) M9 (by omega) f9 (Nat.or_lt_two_pow (by omega) hp1) (fun s hs => ?_)
      rw [Nat.testBit_or, Nat.testBit_two_pow, Bool.or_eq_true, hb s hs, decide_eq_true_eq]
      by_cases q : s = j
      · subst q; exact ⟨fun _ => ⟨by omega, z⟩, fun _ => Or.inr rfl⟩
      · exact ⟨fun w => w.elim (fun w => ⟨by omega, w.2⟩) (fun w => absurd w.symm q), fun w => Or.inl ⟨by omega, w.2⟩⟩
    rw [ev]
    refine ⟨by omega, by omega, by omega, fun q => ⟨by omega, fun z => no ?_, fun z => ⟨by omega, by omega, pw, yes ?_⟩⟩, fun q => ⟨by omega, fun z => no ?_, fun z => ⟨by omega, by omega, pw, yes ?_⟩⟩⟩
    · rw [← e]; intro w; have := w.mpr (by omega); omega
    · rw [← e]; exact ⟨fun w => by omega, fun w => by omega⟩
    · rw [← e]; intro w; have := w.mp (by omega); omega
    · rw [← e]; exact ⟨fun w => by omega, fun w => by omega⟩
theorem c_tell (hn : M 122 8 = (n : Int)) (h20 : n < 20) : zKi g (z1 o) mX6_tell [zA g 122, zL y, zI t] M (fun r N => r = n ∧ N = zu (zu (zu (zu M 123 n t) 124 n (-1)) 125 n y) 122 8 (n + 1)) := by
  refine zki_of rfl (Nat.le_of_ble_eq_true rfl) (SX6_tell_0 ⟨by omega, fun _ => ⟨by omega, by rw [zu_other (by decide)]; omega, fun N4 e4 => ?_⟩, fun h => by omega⟩)
  have a4 : N4 122 8 = n := by rw [e4, zu_other (by decide)]; exact hn
  refine ⟨by rw [zu_other (by decide)]; omega, fun N7 e7 N9 e9 => ?_⟩
  have a7 : N7 122 8 = n := by rw [e7, zu_other (by decide)]; exact a4
  have a9 : N9 122 8 = n := by rw [e9, zu_other (by decide)]; exact a7
  exact ⟨by rw [zu_at, a9]; omega, by rw [a9, e9, a7, e7, a4, e4, hn]⟩
theorem p_seen (hJ : Jt k C R M1 M2) (hk : k < 1000) (h1 : -2147483648 ≤ x1 ∧ x1 ≤ 2147483647) (h2 : -2147483648 ≤ x2 ∧ x2 ≤ 2147483647) (h3 : -2147483648 ≤ x3 ∧ x3 ≤ 2147483647) (h4 : x4 = 0 ∨ x4 = 1) : zE g g' o o' mX9_seen mX10_seen [zI x1, zI x2, zI x3, zI x4] k M1 M2 := by
  obtain ⟨hL, hR⟩ := hJ.lr
  have hgn := geo_n hL.1
  obtain ⟨n, s1, s2, s3, s4⟩ := hJ.2.2.2.2.2.2.1
  obtain ⟨e1, e2, e3, e4, e5⟩ := hJ.2.2.2.2.2.2.2.2
  by_cases hg : (0 ≤ x1 ∧ x1 ≤ 200) ∧ (0 ≤ x2 ∧ x2 < C * R) ∧ 0 ≤ x3 ∧ n < 20
  · obtain ⟨hx1, hx2, hx3, hn⟩ := hg
    obtain ⟨n1, hn1⟩ := znn hx1.1
    subst hn1
    have cl : zKi g (z1 o) mX9_seen [zA g 1, zI n1, zI x2, zI x3, zI x4] M1 (fun r N => ∃ (x : Nat) (P : zM), r = n ∧ x < 2 ^ 50 ∧ (∀ s : Nat, s < 50 → (x.testBit s = true ↔ ((x3 ≤ tdH C R M2 n1 s x2) ↔ x4 = 1))) ∧ fr1 M1 P ∧ N = zu (zu (zu (zu P 123 n (M2 1 43)) 124 n (-1)) 125 n x) 122 8 (n + 1)) := by
      refine zki_of rfl (Nat.le_of_ble_eq_true rfl) (SX9_seen_0 (C := C) (R := R) ⟨h1, fun h => by omega, fun _ => ⟨fun h => by omega, fun _ => ⟨h2, hL, fun h => absurd hx2 h, fun _ => ⟨h3, fun h => by omega, fun _ => ⟨by omega, fun _ => ⟨_, hJ.sdf (by omega) hx2 ⟨hx3, h3.2⟩ h4, fun r M11 hq => ?_⟩, fun h => by omega⟩⟩⟩⟩⟩)
      obtain ⟨x, q1, q2, q3, q4⟩ := hq
      refine ⟨_, c_tell (n := n) (by rw [q4.1 122 rfl]; exact s1) hn, fun r15 M16 hq2 => ⟨x, M11, hq2.1, q2, q3, q4, ?_⟩⟩
      rw [hq2.2, q1, q4.1 1 rfl, e1]
    have rf : zKi g' (z2 o') mX10_seen [zA g' 1, zI n1, zI x2, zI x3, zI x4] M2 (fun r N => r = n ∧ N = zu (zu (zu (zu (zu (zu (zu M2 18 n n1) 19 n x2) 20 n x3) 21 n x4) 22 n (M2 1 43)) 23 n (-1)) 1 42 (n + 1)) := by
      refine zki_of rfl (Nat.le_of_ble_eq_true rfl) (SX10_seen_0 (C := C) (R := R) ⟨h1, fun h => absurd hx1 h, fun _ => ⟨hR, h2, fun h => absurd hx2 h, fun _ => ⟨h3, fun h => by omega, fun _ => ⟨by omega, fun _ => ⟨by omega, by rw [zu_other (by decide)]; omega, fun N14 q14 => ?_⟩, fun h => by omega⟩⟩⟩⟩)
      have a14 : N14 1 42 = n := by rw [q14, zu_other (by decide)]; exact s2
      refine ⟨by rw [zu_other (by decide)]; omega, fun N17 q17 => ?_⟩
      have a17 : N17 1 42 = n := by rw [q17, zu_other (by decide)]; exact a14
      refine ⟨h4, by rw [zu_other (by decide)]; omega, fun N24 q24 => ?_⟩
      have a24 : N24 1 42 = n := by rw [q24, zu_other (by decide)]; exact a17
      refine ⟨by rw [zu_other (by decide)]; omega, fun N27 q27 => ?_⟩
      have a27 : N27 1 42 = n := by rw [q27, zu_other (by decide)]; exact a24
      have b27 : N27 1 43 = M2 1 43 := by rw [q27, zu_other (by decide), q24, zu_other (by decide), q17, zu_other (by decide), q14, zu_other (by decide)]
      refine ⟨by rw [zu_other (by decide)]; omega, fun N30 q30 N32 q32 => ?_⟩
      have a30 : N30 1 42 = n := by rw [q30, zu_other (by decide)]; exact a27
      have a32 : N32 1 42 = n := by rw [q32, zu_other (by decide)]; exact a30
      exact ⟨by rw [zu_at, a32]; omega, by rw [a32, q32, a30, q30, b27, a27, q27, a24, q24, a17, q17, a14, q14, s2]⟩
    refine ⟨_, _, cl, rf, fun r N1 r' N2 q q' => ?_⟩
    obtain ⟨x, P, q1, q2, q3, q4, d⟩ := q
    obtain ⟨q1', d'⟩ := q'
    refine ⟨by omega, C, R, ?_⟩
    have h0 := hJ
    obtain ⟨a0, a1, a2, a3, a4, a5, a6, a7, a8⟩ := hJ
    have n0 : ∀ b : Nat, b ≠ 122 → b ≠ 123 → b ≠ 124 → b ≠ 125 → N1 b = P b := fun b p1 p2 p3 p4 => by rw [d, zu_other p1, zu_other p4, zu_other p3, zu_other p2]
    have n1' : ∀ b : Nat, (14 ≤ b ∧ b ≤ 27) ∨ (36 ≤ b ∧ b ≤ 121) ∨ (135 ≤ b ∧ b ≤ 148) → N1 b = M1 b := fun b hb => by rw [n0 b (by omega) (by omega) (by omega) (by omega)]; exact q4.1 b (by unfold zk1; simp only [Bool.or_eq_true, Bool.and_eq_true, decide_eq_true_eq]; omega)
    have n2 : ∀ b : Nat, b ≠ 1 → ¬ (18 ≤ b ∧ b ≤ 23) → N2 b = M2 b := fun b p1 p2 => by rw [d', zu_other p1, zu_other (by omega), zu_other (by omega), zu_other (by omega), zu_other (by omega), zu_other (by omega), zu_other (by omega)]
    have n3 : ∀ i : Int, i ≠ 42 → N2 1 i = M2 1 i := fun i hi => by rw [d', zu_row, if_neg hi, zu_other (by decide), zu_other (by decide), zu_other (by decide), zu_other (by decide), zu_other (by decide), zu_other (by decide)]
    have r18 : ∀ i : Int, N2 18 i = if i = n then (n1 : Int) else M2 18 i := fun i => by rw [d', zu_other (by decide), zu_other (by decide), zu_other (by decide), zu_other (by decide), zu_other (by decide), zu_other (by decide), zu_row]
    have r19 : ∀ i : Int, N2 19 i = if i = n then x2 else M2 19 i := fun i => by rw [d', zu_other (by decide), zu_other (by decide), zu_other (by decide), zu_other (by decide), zu_other (by decide), zu_row, zu_other (by decide)]
    have r20 : ∀ i : Int, N2 20 i = if i = n then x3 else M2 20 i := fun i => by rw [d', zu_other (by decide), zu_other (by decide), zu_other (by decide), zu_other (by decide), zu_row, zu_other (by decide), zu_other (by decide)]
    have r21 : ∀ i : Int, N2 21 i = if i = n then x4 else M2 21 i := fun i => by rw [d', zu_other (by decide), zu_other (by decide), zu_other (by decide), zu_row, zu_other (by decide), zu_other (by decide), zu_other (by decide)]
    have r22 : ∀ i : Int, N2 22 i = if i = n then M2 1 43 else M2 22 i := fun i => by rw [d', zu_other (by decide), zu_other (by decide), zu_row, zu_other (by decide), zu_other (by decide), zu_other (by decide), zu_other (by decide)]
    have r23 : ∀ i : Int, N2 23 i = if i = n then -1 else M2 23 i := fun i => by rw [d', zu_other (by decide), zu_row, zu_other (by decide), zu_other (by decide), zu_other (by decide), zu_other (by decide), zu_other (by decide)]
    have p123 : ∀ i : Int, N1 123 i = if i = n then M2 1 43 else M1 123 i := fun i => by rw [d, zu_other (by decide), zu_other (by decide), zu_other (by decide), zu_row, q4.1 123 rfl]
    have p124 : ∀ i : Int, N1 124 i = if i = n then -1 else M1 124 i := fun i => by rw [d, zu_other (by decide), zu_other (by decide), zu_row, zu_other (by decide), q4.1 124 rfl]
    have p125 : ∀ i : Int, N1 125 i = if i = n then (x : Int) else M1 125 i := fun i => by rw [d, zu_other (by decide), zu_row, zu_other (by decide), zu_other (by decide), q4.1 125 rfl]
    have ht := tld_of (N2 := N2) (M2 := M2) (n2 3 (by decide) (by decide)) (n2 7 (by decide) (by decide)) (n2 8 (by decide) (by decide))
    have hw := wnr_of (M' := N2) (M := M2) (n2 3 (by decide) (by decide)) (n2 4 (by decide) (by decide)) (n2 5 (by decide) (by decide))
    refine h0.next hk (a1.fr (fun b p q => n1' b (by omega)) (fun b p q => n2 b (by omega) (by omega))) (a2.fr (fun b p q => n1' b (by omega)) (n2 10 (by decide) (by decide)) (by omega) (by omega)) (a3.fr (fun b p q => n1' b (by omega)) (n2 3 (by decide) (by decide)) (n2 7 (by decide) (by decide)) (n2 8 (by decide) (by decide)))
      (a4.fr (fun b p q => n1' b (by omega)) (n2 10 (by decide) (by decide)) (n2 12 (by decide) (by decide)) (n3 28 (by decide)) (n3 29 (by decide)) (by omega) (by omega)) (a5.fr (fun b p q => n1' b (by omega)) (n2 16 (by decide) (by decide)) (n2 17 (by decide) (by decide)) (by omega) (by omega))
      ⟨n + 1, by rw [d, zu_at]; omega, by rw [d', zu_at]; omega, by omega, fun i i0 i1 => ?_⟩ (a7.fr (by rw [n0 2 (by decide) (by decide) (by decide) (by decide)]; exact q4.2.1) (by rw [n0 3 (by decide) (by decide) (by decide) (by decide)]; exact q4.1 3 rfl) (n2 2 (by decide) (by decide)) (n3 1 (by decide))) (a8.fr (by rw [n0 1 (by decide) (by decide) (by decide) (by decide), q4.1 1 rfl]) (by rw [n0 7 (by decide) (by decide) (by decide) (by decide)]; exact q4.2.2.1) (by rw [n0 7 (by decide) (by decide) (by decide) (by decide)]; exact q4.2.2.2) (n3 43 (by decide)) (n3 9 (by decide)) (n3 10 (by decide)) (n3 26 (by decide)))
    unfold sFit
    rw [ht, hw, n2 3 (by decide) (by decide), p123, p124, p125, r18, r19, r20, r21, r22, r23]
    by_cases ei : i = n
    · simp only [if_pos ei]
      refine ⟨trivial, e2, trivial, by omega, by omega, hx2, ⟨hx3, h3.2⟩, h4, ⟨by omega, ?_⟩, fun s hs => ?_⟩
      · have : (x : Int) < ((2 ^ 50 : Nat) : Int) := Int.ofNat_lt.mpr q2
        exact this
      · have hb := hld_bit x s
        unfold hld at hb
        rw [Int.toNat_natCast] at hb
        rw [hb, q3 s hs, Int.toNat_natCast]
        exact Iff.rfl
    · simp only [if_neg ei]
      exact s4 i i0 (by omega)
  · refine zE_of (A := -1) hJ hk (zki_of rfl (Nat.le_of_ble_eq_true rfl) (SX9_seen_0 (C := C) (R := R) ⟨h1, fun _ => ⟨rfl, fr1.rf⟩, fun a => ⟨fun _ => ⟨rfl, fr1.rf⟩, fun b => ⟨h2, hL, fun _ => ⟨rfl, fr1.rf⟩, fun c => ⟨h3, fun _ => ⟨rfl, fr1.rf⟩, fun d => ⟨by omega, fun e => absurd ⟨⟨by omega, by omega⟩, c, by omega, by omega⟩ hg, fun _ => ⟨rfl, fr1.rf⟩⟩⟩⟩⟩⟩)) (zki_of rfl (Nat.le_of_ble_eq_true rfl) (SX10_seen_0 (C := C) (R := R) ⟨h1, fun _ => ⟨rfl, fr2.rf⟩, fun a => ⟨hR, h2, fun _ => ⟨rfl, fr2.rf⟩, fun c => ⟨h3, fun _ => ⟨rfl, fr2.rf⟩, fun d => ⟨by omega, fun e => absurd ⟨a, c, by omega, by omega⟩ hg, fun _ => ⟨rfl, fr2.rf⟩⟩⟩⟩⟩))
end SN
