/-- the reference stands where the Reader stands -/
def RLk (N0 : zM) (pos : Nat → Int) (T : Nat) (s : Rs) (M : zM) : Prop := fOk M ∧ ((s.2.1 = 0 ∧ s.2.2 = -1 ∧ M 1 7 = 0 ∧ M 1 8 = -1 ∧ ∃ t : Nat, s.1 = t ∧ t ≤ T ∧ M 1 4 = N0 5 t ∧ M 1 5 = N0 4 t ∧ M 1 3 = pos (t + 1) ∧ (N0 4 t = 1 → wnr' (N0 6 t) (M 1 11)) ∧ (N0 4 t = 2 → N0 6 t = M 1 6)) ∨ ((1 ≤ s.2.1 ∧ s.2.1 ≤ 4) ∧ M 1 7 = s.2.1 ∧ M 1 8 = s.2.2))
def RBx (b : Int → Int) (L : Int) (M : zM) : Prop := (∀ i : Int, 0 ≤ i → i < L → M 2 i = b i ∧ 0 ≤ b i ∧ b i ≤ 255) ∧ (0 ≤ L ∧ L ≤ 900) ∧ M 1 2 = L
/-- tokens and faults alone are changed -/
def pF (M N : zM) : Prop := (∀ c : Nat, c ≠ 1 → N c = M c) ∧ ∀ i : Int, i ≠ 3 → i ≠ 4 → i ≠ 5 → i ≠ 6 → i ≠ 7 → i ≠ 8 → i ≠ 11 → N 1 i = M 1 i
section PS
variable {g : zG} {o : Bool} {M N N0 M' : zM} {lo hi k w L : Int} {b : Int → Int} {pos : Nat → Int} {T : Nat} {s : Rs}
theorem pF.rf : pF M M := ⟨fun _ _ => rfl, fun _ _ _ _ _ _ _ _ => rfl⟩
theorem pF.trans (h : pF M N) (h' : pF N M') : pF M M' := ⟨fun c a => (h'.1 c a).trans (h.1 c a), fun i a1 a2 a3 a4 a5 a6 a7 => (h'.2 i a1 a2 a3 a4 a5 a6 a7).trans (h.2 i a1 a2 a3 a4 a5 a6 a7)⟩
theorem goF.pF (h : goF M N) : pF M N := ⟨h.1, fun i a1 a2 a3 a4 _ _ a7 => h.2 i a1 a2 a3 a4 a7⟩
theorem wr_pF : pF M (wrM k M) := by
  unfold wrM; split
  · exact ⟨fun c hc => by rw [zu_other hc, zu_other hc], fun i _ _ _ _ a5 a6 _ => by rw [zu_row, if_neg a6, zu_row, if_neg a5]⟩
  · exact pF.rf
theorem RBx.pF (h : RBx b L M) (hf : pF M N) : RBx b L N := ⟨by rw [hf.1 2 (by decide)]; exact h.1, h.2.1, by rw [hf.2 2 (by decide) (by decide) (by decide) (by decide) (by decide) (by decide) (by decide)]; exact h.2.2⟩
theorem RLk.of (h : RLk N0 pos T s M) (e : ∀ i : Int, (3 ≤ i ∧ i ≤ 8) ∨ i = 11 → N 1 i = M 1 i) : RLk N0 pos T s N := by
  unfold RLk fOk at h ⊢
  rw [e 3 (by decide), e 4 (by decide), e 5 (by decide), e 6 (by decide), e 7 (by decide), e 8 (by decide), e 11 (by decide)]; exact h
theorem RLk.wz (h : RLk N0 pos T s M) : (s.2.1 = 0 ↔ M 1 7 = 0) ∧ 0 ≤ s.2.1 ∧ s.2.1 ≤ 4 := by
  rcases h.2 with ⟨a1, a2, a3, -⟩ | ⟨a1, a2, -⟩ <;> omega
theorem RLk.kz (h : RLk N0 pos T s M) (h0 : s.2.1 = 0) : M 1 5 = N0 4 s.1 ∧ M 1 4 = N0 5 s.1 ∧ (N0 4 s.1 = 1 → wnr' (N0 6 s.1) (M 1 11)) ∧ (N0 4 s.1 = 2 → N0 6 s.1 = M 1 6) ∧ M 1 8 = -1 ∧ s.2.2 = -1 := by
  rcases h.2 with ⟨a1, a2, a3, a4, t, b1, b2, b3, b4, b5, b6, b7⟩ | ⟨a1, -⟩
  · rw [b1]; exact ⟨b4, b3, b6, b7, a4, a2⟩
  · omega
/-- a word by its number -/
theorem RLk.isw (h : RLk N0 pos T s M) (j : Nat) (hj : j < 15) : isW (WP.getD j 0) M ↔ (s.2.1 = 0 ∧ N0 4 s.1 = 1 ∧ N0 6 s.1 = j) := by
  by_cases h0 : s.2.1 = 0
  · obtain ⟨k1, k2, k3, -⟩ := h.kz h0
    have w := h.wz.1.mp h0
    unfold isW
    rw [k1]
    constructor
    · intro ⟨⟨_, z⟩, z2⟩
      exact ⟨h0, z, ((k3 z).2 j hj).mpr z2⟩
    · intro ⟨_, z, z2⟩
      exact ⟨⟨w, z⟩, ((k3 z).2 j hj).mp z2⟩
  · exact ⟨fun z => absurd (h.wz.1.mpr z.1.1) h0, fun z => absurd z.1 h0⟩
theorem tokw {v e p q : Int} (h : Tok b L p q 1 v w e) : 0 ≤ w ∧ w ≤ 9223372036854775807 := by
  rcases h.2 with ⟨-, z, -⟩ | ⟨-, z⟩
  · exact absurd z (by decide)
  · rcases z with ⟨a1, a2, a3, a4⟩ | ⟨a1, a2, a3, a4, a5⟩ | ⟨a1, a2, a3, a4⟩
    · have hle : e - q ≤ 8 := by
        by_cases y : 8 < e - q
        · rw [if_pos y] at a3; exact absurd a3 (by decide)
        · omega
      rw [a4 hle]
      have pi := pkw_in (f := fun j => b (q + j)) (e - q).toNat (fun t ht => (a2.2.1 (q + t) (by omega) (by omega)).2)
      have : 256 ^ (e - q).toNat ≤ 256 ^ 8 := Nat.pow_le_pow_right (by decide) (by omega)
      have : ((256 ^ (e - q).toNat : Nat) : Int) ≤ 18446744073709551616 := Int.ofNat_le.mpr this
      omega
    · rcases a3 with y | y <;> exact absurd y (by decide)
    · by_cases y : b q = 59
      · rw [if_pos y] at a4; exact absurd a4 (by decide)
      · rw [if_neg y] at a4; exact absurd a4 (by decide)
theorem r_goOn (hT : TS b L N0 pos T) (hB : RBx b L M) (hR : RLk N0 pos T s M) (h0 : s.2.1 = 0) (hk : N0 4 s.1 ≠ 0) : zKv g (z2 o) mX10_goOn [zA g 1] M (fun N => RLk N0 pos T (adS (N0 4) s) N ∧ pF M N) := by
  have hw := hR.wz
  rcases hR.2 with ⟨a1, a2, a3, a4, t, b1, b2, b3, b4, b5, b6, b7⟩ | ⟨a1, -⟩
  · have htT : t < T := by
      rcases Nat.lt_or_ge t T with z | z
      · exact z
      · exact absurd (by rw [b1, show t = T by omega]; exact hT.2.2.2.2) hk
    obtain ⟨⟨v, w', t1, t2, t3⟩, t4⟩ := hT.2.2.1 (t + 1) (by omega)
    refine zkv_mono (c_goOn hB.1 hB.2.1 hB.2.2 b5 t4) (fun N h => ?_)
    obtain ⟨⟨v2, w2, g1, g2, g3⟩, g4⟩ := h
    obtain ⟨u1, u2, u3, u4, u5⟩ := Tok_u t1 g1
    have n7 : N 1 7 = 0 := by rw [g4.2 7 (by decide) (by decide) (by decide) (by decide) (by decide)]; exact a3
    have n8 : N 1 8 = -1 := by rw [g4.2 8 (by decide) (by decide) (by decide) (by decide) (by decide)]; exact a4
    have kr : 0 ≤ N0 4 ((t + 1 : Nat) : Int) ∧ N0 4 ((t + 1 : Nat) : Int) ≤ 4 := by
      rcases Nat.lt_or_ge (t + 1) T with z | z
      · have := hT.2.2.2.1 (t + 1) z; omega
      · rw [show t + 1 = T by omega, hT.2.2.2.2]; decide
    have e1 : (adS (N0 4) s) = (s.1 + 1, s.2.1, s.2.2) := by unfold adS; rw [if_neg hk]
    rw [e1]
    refine ⟨⟨⟨by omega, by omega, fun z => ?_, fun z => ?_⟩, Or.inl ⟨a1, a2, n7, n8, t + 1, by show s.1 + 1 = _; omega, by omega, u1.symm, u2.symm, u3.symm, fun z => ?_, fun z => ?_⟩⟩, goF.pF g4⟩
    · rw [g2 z]; rw [z] at g1; exact tokw g1
    · rw [g3 z, ← u5 (by omega)]; exact (t3 (by omega)).2
    · rw [g2 (by omega), ← u4 z]; exact t2 z
    · rw [g3 (by omega), ← u5 z]; exact (t3 z).1
  · omega
theorem r_wr (hR : RLk N0 pos T s M) (hk : 1 ≤ k ∧ k ≤ 4) : RLk N0 pos T (rfS (N0 5) (if N0 4 s.1 = 4 then 1 else k) s.1 s) (wrM k M) := by
  have hw := hR.wz
  by_cases h0 : s.2.1 = 0
  · obtain ⟨k1, k2, k3, k4, k5, k6⟩ := hR.kz h0
    have m7 := hw.1.mp h0
    unfold rfS wrM
    rw [if_pos h0, if_pos m7]
    have hv : 1 ≤ (if N0 4 s.1 = 4 then 1 else k) ∧ (if N0 4 s.1 = 4 then 1 else k) ≤ 4 := by split <;> omega
    refine ⟨⟨?_, ?_, ?_, ?_⟩, Or.inr ⟨hv, ?_, ?_⟩⟩
    · rw [zu_row, if_neg (by decide), zu_at, k1]; omega
    · rw [zu_row, if_neg (by decide), zu_row, if_neg (by decide)]; exact hR.1.2.1
    · rw [zu_row, if_neg (by decide), zu_row, if_neg (by decide), zu_row, if_neg (by decide), zu_row, if_neg (by decide)]; exact hR.1.2.2.1
    · rw [zu_row, if_neg (by decide), zu_row, if_neg (by decide), zu_row, if_neg (by decide), zu_row, if_neg (by decide)]; exact hR.1.2.2.2
    · rw [zu_row, if_neg (by decide), zu_at, k1]
    · rw [zu_at, k2]
  · have m7 : M 1 7 ≠ 0 := fun z => h0 (hw.1.mpr z)
    unfold rfS wrM
    rw [if_neg h0, if_neg m7]; exact hR
/-- a number here, without going on -/
def nhS (K Pl V : Int → Int) (lo hi : Int) (s : Rs) : Rs := if s.2.1 = 0 then (if K s.1 = 2 then (if lo ≤ V s.1 ∧ V s.1 ≤ hi then s else rfS Pl 4 s.1 s) else rtS K Pl s) else s
theorem r_nh (hR : RLk N0 pos T s M) : RLk N0 pos T (nhS (N0 4) (N0 5) (N0 6) lo hi s) (nhM lo hi M) ∧ ((nhS (N0 4) (N0 5) (N0 6) lo hi s).2.1 = 0 → nhV M = nmV (N0 4) (N0 6) lo hi s ∧ N0 4 s.1 = 2 ∧ nhS (N0 4) (N0 5) (N0 6) lo hi s = s ∧ nhM lo hi M = M) ∧ pF M (nhM lo hi M) := by
  have hw := hR.wz
  by_cases h0 : s.2.1 = 0
  · obtain ⟨k1, k2, k3, k4, k5, k6⟩ := hR.kz h0
    have m7 := hw.1.mp h0
    by_cases h2 : N0 4 s.1 = 2
    · have v := k4 h2
      by_cases h3 : lo ≤ N0 6 s.1 ∧ N0 6 s.1 ≤ hi
      · unfold nhS nhM nhV nmV
        rw [if_pos h0, if_pos h2, if_pos h3, if_pos m7, if_pos (by omega), if_pos (by rw [← v]; exact h3), if_pos m7, if_pos ⟨h0, h2, h3⟩]
        exact ⟨hR, fun _ => ⟨v.symm, h2, rfl, rfl⟩, pF.rf⟩
      · unfold nhS nhM
        rw [if_pos h0, if_pos h2, if_neg h3, if_pos m7, if_pos (by omega), if_neg (by rw [← v]; exact h3)]
        have := r_wr (k := 4) hR (by decide)
        rw [if_neg (by omega)] at this
        refine ⟨this, fun z => ?_, wr_pF⟩
        unfold rfS at z; rw [if_pos h0] at z; exact absurd (show (4 : Int) = 0 from z) (by decide)
    · unfold nhS nhM
      rw [if_pos h0, if_neg h2, if_pos m7, if_neg (by omega)]
      refine ⟨r_wr (k := 2) hR (by decide), fun z => ?_, wr_pF⟩
      unfold rtS rfS at z; rw [if_pos h0] at z
      have z : (if N0 4 s.1 = 4 then (1 : Int) else 2) = 0 := z
      split at z <;> exact absurd z (by decide)
  · have m7 : M 1 7 ≠ 0 := fun z => h0 (hw.1.mpr z)
    unfold nhS nhM
    rw [if_neg h0, if_neg m7]
    exact ⟨hR, fun z => absurd z h0, pF.rf⟩
theorem nm_nh {K Pl V : Int → Int} : (nhS K Pl V lo hi s).2.1 ≠ 0 → nmS K Pl V lo hi s = nhS K Pl V lo hi s := by
  intro z
  unfold nhS nmS at *
  by_cases h0 : s.2.1 = 0
  · rw [if_pos h0] at z ⊢
    rw [if_pos h0]
    by_cases h2 : K s.1 = 2
    · rw [if_pos h2] at z ⊢
      rw [if_pos h2]
      by_cases h3 : lo ≤ V s.1 ∧ V s.1 ≤ hi
      · rw [if_pos h3] at z; exact absurd h0 z
      · rw [if_neg h3, if_neg h3]
    · rw [if_neg h2, if_neg h2]
  · rw [if_neg h0, if_neg h0]
theorem nm_nh0 {K Pl V : Int → Int} (z : (nhS K Pl V lo hi s).2.1 = 0) : nmS K Pl V lo hi s = adS K s := by
  unfold nhS at z
  unfold nmS
  by_cases h0 : s.2.1 = 0
  · rw [if_pos h0] at z ⊢
    by_cases h2 : K s.1 = 2
    · rw [if_pos h2] at z ⊢
      by_cases h3 : lo ≤ V s.1 ∧ V s.1 ≤ hi
      · rw [if_pos h3]
      · rw [if_neg h3] at z; unfold rfS at z; rw [if_pos h0] at z; exact absurd (show (4 : Int) = 0 from z) (by decide)
    · rw [if_neg h2] at z
      unfold rtS rfS at z; rw [if_pos h0] at z
      have z : (if K s.1 = 4 then (1 : Int) else 2) = 0 := z
      split at z <;> exact absurd z (by decide)
  · rw [if_neg h0] at z; exact absurd z h0
theorem ad_w {K : Int → Int} : (adS K s).2 = s.2 := by unfold adS; split <;> rfl
theorem r_number (hT : TS b L N0 pos T) (hB : RBx b L M) (hR : RLk N0 pos T s M) (hl : -2147483648 ≤ lo ∧ lo ≤ 2147483647) (hh : -2147483648 ≤ hi ∧ hi ≤ 2147483647) : zKi g (z2 o) mX10_number [zA g 1, zI lo, zI hi] M (fun r N => RLk N0 pos T (nmS (N0 4) (N0 5) (N0 6) lo hi s) N ∧ ((nmS (N0 4) (N0 5) (N0 6) lo hi s).2.1 = 0 → r = nmV (N0 4) (N0 6) lo hi s) ∧ pF M N) := by
  obtain ⟨n1, n2, n3⟩ := r_nh (lo := lo) (hi := hi) hR
  refine zki_of rfl (Nat.le_of_ble_eq_true rfl) (SX10_number_0 ⟨hR.1, hl, hh, fun r N6 e4 e6 => ?_⟩)
  rw [← e6] at n1 n3
  refine ⟨n1.1, fun z => ?_, fun z => ?_⟩
  · have zz : (nhS (N0 4) (N0 5) (N0 6) lo hi s).2.1 ≠ 0 := fun y => z (n1.wz.1.mp y)
    rw [nm_nh zz]
    exact ⟨n1, fun y => absurd y zz, n3⟩
  · have zz := n1.wz.1.mpr z
    obtain ⟨y1, y2, y3, y4⟩ := n2 zz
    rw [y3] at n1 zz
    rw [nm_nh0 (by rw [y3]; exact zz)]
    refine ⟨_, r_goOn hT (hB.pF n3) n1 zz (by rw [y2]; decide), fun N hN => ⟨hN.1, fun _ => by rw [e4]; exact y1, n3.trans hN.2⟩⟩
theorem r_way (hR : RLk N0 pos T s M) : (wyR M = -1 ↔ ¬ (s.2.1 = 0 ∧ N0 4 s.1 = 1 ∧ 10 ≤ N0 6 s.1 ∧ N0 6 s.1 ≤ 13)) ∧ (wyR M ≠ -1 → wyR M = N0 6 s.1 - 10) ∧ -1 ≤ wyR M ∧ wyR M ≤ 3 := by
  have w0 := hR.isw 10 (by decide)
  have w1 := hR.isw 11 (by decide)
  have w2 := hR.isw 12 (by decide)
  have w3 := hR.isw 13 (by decide)
  have w0 : isW 1700885364 M ↔ (s.2.1 = 0 ∧ N0 4 s.1 = 1 ∧ N0 6 s.1 = 10) := w0
  have w1 : isW 495791207528 M ↔ (s.2.1 = 0 ∧ N0 4 s.1 = 1 ∧ N0 6 s.1 = 11) := w1
  have w2 : isW 2003137396 M ↔ (s.2.1 = 0 ∧ N0 4 s.1 = 1 ∧ N0 6 s.1 = 12) := w2
  have w3 : isW 474316174440 M ↔ (s.2.1 = 0 ∧ N0 4 s.1 = 1 ∧ N0 6 s.1 = 13) := w3
  have nz : ∀ {Q : Prop}, ¬ Q → zb Q ≠ 1 := fun z => by rw [zb_f z]; decide
  unfold wyR
  by_cases a : isW 1700885364 M
  · rw [if_pos (zb_t a)]; have := w0.mp a; exact ⟨⟨fun z => absurd z (by decide), fun z => absurd ⟨this.1, this.2.1, by omega, by omega⟩ z⟩, fun _ => by omega, by decide, by decide⟩
  · rw [if_neg (nz a)]
    by_cases c : isW 495791207528 M
    · rw [if_pos (zb_t c)]; have := w1.mp c; exact ⟨⟨fun z => absurd z (by decide), fun z => absurd ⟨this.1, this.2.1, by omega, by omega⟩ z⟩, fun _ => by omega, by decide, by decide⟩
    · rw [if_neg (nz c)]
      by_cases d : isW 2003137396 M
      · rw [if_pos (zb_t d)]; have := w2.mp d; exact ⟨⟨fun z => absurd z (by decide), fun z => absurd ⟨this.1, this.2.1, by omega, by omega⟩ z⟩, fun _ => by omega, by decide, by decide⟩
      · rw [if_neg (nz d)]
        by_cases e : isW 474316174440 M
        · rw [if_pos (zb_t e)]; have := w3.mp e; exact ⟨⟨fun z => absurd z (by decide), fun z => absurd ⟨this.1, this.2.1, by omega, by omega⟩ z⟩, fun _ => by omega, by decide, by decide⟩
        · rw [if_neg (nz e)]
          refine ⟨⟨fun _ z => ?_, fun _ => rfl⟩, fun z => absurd rfl z, by decide, by decide⟩
          have h4 : N0 6 s.1 = 10 ∨ N0 6 s.1 = 11 ∨ N0 6 s.1 = 12 ∨ N0 6 s.1 = 13 := by omega
          rcases h4 with y | y | y | y
          · exact a (w0.mpr ⟨z.1, z.2.1, y⟩)
          · exact c (w1.mpr ⟨z.1, z.2.1, y⟩)
          · exact d (w2.mpr ⟨z.1, z.2.1, y⟩)
          · exact e (w3.mpr ⟨z.1, z.2.1, y⟩)
end PS
