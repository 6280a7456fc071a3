section FT
variable {g g' : zG} {o o' : Bool} {M M' M1 M2 N N' N1 N2 A : zM} {k C R c d m x y h is kk sd x1 x2 x3 x4 t : Int} {n s : Nat}
/-- the seeds that fit, by the class -/
theorem Jt.fitc (hJ : Jt k C R M1 M2) (hk : -2147483648 ≤ kk ∧ kk ≤ 2147483647) : zKl g (z1 o) mX6_fitting [zA g 122, zI kk] M1 (fun r N => ∃ x : Nat, r = x ∧ x < 2 ^ 50 ∧ (∀ s : Nat, s < 50 → (x.testBit s = true ↔ FPs C R M2 kk s)) ∧ N = M1) := by
  obtain ⟨n, s1, s2, s3, s4⟩ := hJ.2.2.2.2.2.2.1
  refine zkl_of rfl (Nat.le_of_ble_eq_true rfl) (SX6_fitting_0 ?_)
  suffices hs : ∀ (i j x : Nat), j + i = n → x < 2 ^ 50 → (∀ s : Nat, s < 50 → (x.testBit s = true ↔ ∀ i : Int, 0 ≤ i → i < j → dct M2 i kk → sFit C R M2 i s)) → zT g (z1 o) mX6_fitting (zQl (z1 o) (fun r N => ∃ x : Nat, r = x ∧ x < 2 ^ 50 ∧ (∀ s : Nat, s < 50 → (x.testBit s = true ↔ FPs C R M2 kk s)) ∧ N = M1)) 7 [(0, zA g 122), (1, zI kk), (2, zL x), (4, zI j)] [] M1 by
    refine hs n 0 1125899906842623 (by omega) (by decide) (fun s hs => ?_)
    rw [show 1125899906842623 = 2 ^ 50 - 1 from rfl, Nat.testBit_two_pow_sub_one, decide_eq_true_eq]
    exact ⟨fun _ i a b => by omega, fun _ => hs⟩
  intro i
  induction i with
  | zero =>
    intro j x hj hx hb
    refine SX6_fitting_7 ⟨by omega, by omega, fun _ => ⟨x, rfl, hx, fun s hs => ?_, rfl⟩, fun h => by omega⟩
    rw [hb s hs, show j = n by omega]
    unfold FPs
    rw [s2]
  | succ i ih =>
    intro j x hj hx hb
    obtain ⟨r1, r2, r3, r4, r5, r6, r7, r8, r9, r10⟩ := s4 j (by omega) (by omega)
    have no : ¬ dct M2 j kk → zT g (z1 o) mX6_fitting (zQl (z1 o) (fun r N => ∃ x : Nat, r = x ∧ x < 2 ^ 50 ∧ (∀ s : Nat, s < 50 → (x.testBit s = true ↔ FPs C R M2 kk s)) ∧ N = M1)) 7 [(0, zA g 122), (1, zI kk), (2, zL x), (4, zI ((j : Int) + 1))] [] M1 := fun z => by
      refine ih (j + 1) x (by omega) hx (fun s hs => ?_)
      rw [hb s hs]
      refine ⟨fun w i a b e => ?_, fun w i a b e => w i a (by omega) e⟩
      by_cases q : i = j
      · rw [q] at e; exact absurd e z
      · exact w i a (by omega) e
    have yes : dct M2 j kk → zT g (z1 o) mX6_fitting (zQl (z1 o) (fun r N => ∃ x : Nat, r = x ∧ x < 2 ^ 50 ∧ (∀ s : Nat, s < 50 → (x.testBit s = true ↔ FPs C R M2 kk s)) ∧ N = M1)) 7 [(0, zA g 122), (1, zI kk), (2, zL ((x &&& (M1 125 j).toNat : Nat) : Int)), (4, zI ((j : Int) + 1))] [] M1 := fun z => by
      refine ih (j + 1) (x &&& (M1 125 j).toNat) (by omega) (Nat.lt_of_le_of_lt Nat.and_le_left hx) (fun s hs => ?_)
      rw [Nat.testBit_and, Bool.and_eq_true, hb s hs]
      have hq : (M1 125 j).toNat.testBit s = true ↔ sFit C R M2 j s := by
        have h1 := hld_bit (M1 125 j).toNat s
        unfold hld at h1
        rw [Int.toNat_natCast, Int.toNat_of_nonneg r9.1] at h1
        rw [← h1]; exact r10 s hs
      rw [hq]
      refine ⟨fun w i a b e => ?_, fun w => ⟨fun i a b e => w i a (by omega) e, w j (by omega) (by omega) z⟩⟩
      by_cases q : i = j
      · rw [q]; exact w.2
      · exact w.1 i a (by omega) e
    have c42 : (M2 23 j = -1 ∨ kk < M2 23 j) → zT g (z1 o) mX6_fitting (zQl (z1 o) (fun r N => ∃ x : Nat, r = x ∧ x < 2 ^ 50 ∧ (∀ s : Nat, s < 50 → (x.testBit s = true ↔ FPs C R M2 kk s)) ∧ N = M1)) 42 [(0, zA g 122), (1, zI kk), (2, zL x), (4, zI j)] [] M1 := fun z => by
      refine SX6_fitting_42 ⟨by omega, by omega, hk, fun q => no (fun w => by have := w.1; omega), fun q => ⟨by have : x < 2 ^ 50 := hx; omega, by omega, ?_⟩⟩
      rw [show Int.toNat (x : Int) = x by omega]
      exact yes ⟨by omega, z⟩
    exact SX6_fitting_7 ⟨by omega, by omega, fun h => by omega, fun _ => ⟨by omega, by omega, fun q => c42 (by omega), fun q => ⟨hk, fun w => c42 (by omega), fun w => ⟨by omega, fun _ => no (fun e => by rcases e.2 with z | z <;> omega), fun _ => no (fun e => by rcases e.2 with z | z <;> omega)⟩⟩⟩⟩
theorem c_asTold : zKv g (z2 o) mX10_asTold [zA g 1, zI sd] M (fun N => (∀ i : Int, 0 ≤ i → i < 198 → N 11 i = tld M sd i) ∧ ∀ b : Nat, b ≠ 11 → N b = M b) := by
  refine zkv_of rfl (Nat.le_of_ble_eq_true rfl) (SX10_asTold_0 ?_)
  suffices hs : ∀ (j i : Nat) (N : zM), i + j = 96 → (∀ c : Int, 0 ≤ c → c < i → N 11 c = M 8 c ∧ N 11 (96 + c) = M 7 c) → (∀ b : Nat, b ≠ 11 → N b = M b) → zT g (z2 o) mX10_asTold (zQv (z2 o) (fun N => (∀ i : Int, 0 ≤ i → i < 198 → N 11 i = tld M sd i) ∧ ∀ b : Nat, b ≠ 11 → N b = M b)) 2 [(0, zA g 1), (1, zI sd), (2, zI i)] [] N from hs 96 0 M rfl (fun c a b => by omega) (fun _ _ => rfl)
  intro j
  induction j with
  | zero =>
    intro i N hi hc hb
    refine SX10_asTold_2 ⟨by omega, fun _ N2 e2 N4 e4 N6 e6 N8 e8 N10 e10 => ⟨fun z a b => ?_, fun b q => by rw [zu_other q, e10, zu_other q, e8, zu_other q, e6, zu_other q, e4, zu_other q, e2, zu_other q]; exact hb b q⟩, fun h => by omega⟩
    have f3 : N 3 = M 3 := hb 3 (by decide)
    have g2 : N2 3 = M 3 := by rw [e2, zu_other (by decide)]; exact f3
    have g4 : N4 3 = M 3 := by rw [e4, zu_other (by decide)]; exact g2
    have g6 : N6 3 = M 3 := by rw [e6, zu_other (by decide)]; exact g4
    rw [zu_row, e10, zu_row, e8, zu_row, e6, zu_row, e4, zu_row, e2, zu_row, ← e2, ← e4, ← e6, g2, g4, g6, f3]
    unfold tld
    by_cases q1 : z < 96
    · rw [if_neg (by omega), if_neg (by omega), if_neg (by omega), if_neg (by omega), if_neg (by omega), if_neg (by omega), if_pos q1]
      exact (hc z a (by omega)).1
    · by_cases q2 : z < 192
      · rw [if_neg (by omega), if_neg (by omega), if_neg (by omega), if_neg (by omega), if_neg (by omega), if_neg (by omega), if_neg q1, if_pos q2]
        have := (hc (z - 96) (by omega) (by omega)).2
        rw [show 96 + (z - 96) = z by omega] at this
        exact this
      · have hz : z = 192 ∨ z = 193 ∨ z = 194 ∨ z = 195 ∨ z = 196 ∨ z = 197 := by omega
        rcases hz with rfl | rfl | rfl | rfl | rfl | rfl <;> rfl
  | succ j ih =>
    intro i N hi hc hb
    refine SX10_asTold_2 ⟨by omega, fun h => by omega, fun _ => ⟨by omega, by omega, by omega, by omega, fun N16 e16 => ih (i + 1) _ (by omega) (fun z a b => ?_) (fun b q => by rw [zu_other q, e16, zu_other q]; exact hb b q)⟩⟩
    have f7 : N16 7 = M 7 := by rw [e16, zu_other (by decide)]; exact hb 7 (by decide)
    rw [zu_row, zu_row, if_neg (by omega), f7, e16, zu_row, zu_row, hb 8 (by decide)]
    by_cases q : z = i
    · rw [if_pos q, if_pos (by omega), q]; exact ⟨rfl, rfl⟩
    · rw [if_neg q, if_neg (by omega), if_neg (by omega)]; exact hc z a (by omega)
/-- behind so many tries from the field as told, by the reference -/
noncomputable def tdI (C R : Int) (M2 A N : zM) (sd : Int) (n : Nat) : Prop := rfx A N ∧ RefOK N (3000 + n) n ∧ ∃ z : Sx, repx N z ∧ xeq z (blR C R (M2 3 5) (wnr M2) (tld M2 sd) n)
theorem rfx.fr (h : rfx A N) (hf : fr2 M2 A) : fr2 M2 N := hf.trans (go_fr h.1 h.2.1)
theorem tdI.td (h : tdI C R M2 A N sd n) {i : Int} (h0 : 0 ≤ i) (h1 : i < 96) : N 11 i = tdH C R M2 n sd i := by
  obtain ⟨-, -, z, hr, hx⟩ := h
  rw [hr.1.1 i h0 h1]; exact hx.1 i h0 h1
theorem Jt.td0 (hJ : Jt k C R M1 M2) (hs : 0 ≤ sd ∧ sd ≤ 10006) (hA : ∀ i : Int, 0 ≤ i → i < 198 → A 11 i = tld M2 sd i) (hf : fr2 M2 A) : tdI C R M2 A A sd 0 := by
  have e26 : A 1 26 = -1 := by rw [hf.2 26 (by decide)]; exact hJ.2.2.2.2.2.2.2.2.2.2.2.2
  obtain ⟨u1, u2, u3, u4, u5, u6, u7, u8, u9⟩ := hJ.2.2.2.1.2
  have ne : ∀ i : Int, i ≠ 196 → tld M2 sd i = tld M2 (M2 3 8) i := fun i h => tld_nw h
  refine ⟨⟨fun _ _ _ => rfl, fun _ _ _ _ => rfl, fun _ _ _ _ => rfl⟩, ⟨fun i a b => ?_, fun i a b => ?_, ?_, ?_, ?_, ?_, ?_, ?_⟩, ((A 11, A 1 24, fun _ => A 1 25), A 1 23, A 11 196, A 11 197), ⟨⟨fun _ _ _ => rfl, rfl, Or.inl e26⟩, rfl, rfl, rfl⟩, fun i a b => hA i a (by omega), ?_⟩
  · rw [hA i a (by omega), ne i (by omega)]; have := u1 i a b; omega
  · rw [hA _ (by omega) (by omega), ne _ (by omega)]; exact u2 i a b
  · rw [hA 192 (by decide) (by decide), ne 192 (by decide)]; exact u3
  · rw [hA 193 (by decide) (by decide), ne 193 (by decide)]; exact u4
  · rw [hA 194 (by decide) (by decide), ne 194 (by decide)]; exact u5
  · rw [hA 195 (by decide) (by decide), ne 195 (by decide)]; exact u6
  · rw [hA 196 (by decide) (by decide)]; exact hs
  · rw [hA 197 (by decide) (by decide), ne 197 (by decide)]; have := u8; omega
  · show ((A 11 196, A 11 197) : Int × Int) = (tld M2 sd 196, tld M2 sd 197)
    rw [hA 196 (by decide) (by decide), hA 197 (by decide) (by decide)]
theorem Jt.td1 (hJ : Jt k C R M1 M2) (hA : ∀ i : Int, 0 ≤ i → i < 198 → A 11 i = tld M2 sd i) (hf : fr2 M2 A) (hn : n ≤ 500) (hI : tdI C R M2 A N sd n) : zKi g (z2 o) mX10_tries [zA g 1] N (fun _ N' => tdI C R M2 A N' sd (n + 1)) := by
  obtain ⟨i1, i2, z, i3, i4⟩ := hI
  have hG := hJ.lr.1.1
  have fN : fr2 M2 N := i1.fr hf
  have e26 : N 1 26 = -1 := by rw [fN.2 26 (by decide)]; exact hJ.2.2.2.2.2.2.2.2.2.2.2.2
  have row : ∀ i : Int, 96 ≤ i → i < 196 → N 11 i = tld M2 sd i := fun i a b => by rw [i1.2.2 i a (by omega) (by omega)]; exact hA i (by omega) (by omega)
  have ht := c_tries (g := g) (o := o) (G := fun i => tld M2 sd (96 + i)) (wd := wnr M2) (fN.Ld hJ.lr.2) i2 (by omega) (by omega) (by omega) i3 (fun i a b => row (96 + i) (by omega) (by omega)) (fun t _ => by rw [wnr_of (fN.1 3 rfl) (fN.1 4 rfl) (fN.1 5 rfl)])
  refine zki_mono ht (fun r N' h => ?_)
  obtain ⟨-, h2, h3, h4⟩ := h
  refine ⟨⟨fun b p q => (h3.1 b p q).trans (i1.1 b p q), fun i p q r => (h3.2.1 i p q r).trans (i1.2.1 i p q r), fun i p q r => (h3.2.2 i p q r).trans (i1.2.2 i p q r)⟩, ?_, _, h2, ?_⟩
  · have e1 : (3000 : Int) + ((n + 1 : Nat) : Int) = 3000 + n + 1 := by omega
    have e2 : ((n + 1 : Nat) : Int) = n + 1 := by omega
    rw [e1, e2]; exact h4
  · unfold blR
    rw [blw_last, fN.1 3 rfl, row 192 (by decide) (by decide), row 193 (by decide) (by decide), row 194 (by decide) (by decide), row 195 (by decide) (by decide)]
    exact (try_eq hG i4 (fun _ _ _ => rfl)).2
/-- many tries -/
theorem Jt.tdb (hJ : Jt k C R M1 M2) (hs : 0 ≤ sd ∧ sd ≤ 10006) (hA : ∀ i : Int, 0 ≤ i → i < 198 → A 11 i = tld M2 sd i) (hf : fr2 M2 A) (hn : n ≤ 500) : zKi g (z2 o) mX10_blows [zA g 1, zI n] A (fun _ N => eq96 (N 11) (tdH C R M2 n sd) ∧ fr2 M2 N) := by
  obtain ⟨i1, i2, z, i3, i4⟩ := hJ.td0 hs hA hf
  have hG := hJ.lr.1.1
  have e26 : A 1 26 = -1 := by rw [hf.2 26 (by decide)]; exact hJ.2.2.2.2.2.2.2.2.2.2.2.2
  have hb := c_blows (g := g) (o := o) (G := fun i => tld M2 sd (96 + i)) (wd := wnr M2) n hn (hf.Ld hJ.lr.2) i2 (by omega) (by omega) (by omega) i3 (fun i a b => hA (96 + i) (by omega) (by omega)) (fun t _ => by rw [wnr_of (hf.1 3 rfl) (hf.1 4 rfl) (hf.1 5 rfl)])
  refine zki_mono hb (fun r N' h => ?_)
  obtain ⟨-, h2, h3, -⟩ := h
  refine ⟨fun i a b => ?_, hf.trans (go_fr h3.1 h3.2.1)⟩
  rw [h2.1.1 i a b, hf.1 3 rfl, hA 192 (by decide) (by decide), hA 193 (by decide) (by decide), hA 194 (by decide) (by decide), hA 195 (by decide) (by decide)]
  exact (blw_eq (S := M2 3 5) hG n i4 (fun _ _ _ => rfl)).2.1 i a b
theorem Jt.iso (hJ : Jt k C R M1 M2) (hf : fr2 M2 N) (hb : ∀ i : Int, 0 ≤ i → i < 96 → 0 ≤ N 11 i ∧ N 11 i ≤ 2000000000) (hx : -2147483648 ≤ x ∧ x ≤ 2147483647) (hk : -2147483648 ≤ kk ∧ kk ≤ 2147483647) : zKi g (z2 o) mX10_isSoAfter [zA g 1, zI x, zI kk] N (fun r N' => r = zb (∀ i : Int, 0 ≤ i → i < M2 1 42 → M2 18 i = x → dct M2 i kk → ((M2 20 i ≤ N 11 (M2 19 i)) ↔ M2 21 i = 1)) ∧ N' = N) := by
  obtain ⟨n, s1, s2, s3, s4⟩ := hJ.2.2.2.2.2.2.1
  have hgn := geo_n hJ.lr.1.1
  have q42 : N 1 42 = n := by rw [hf.2 42 (by decide)]; exact s2
  have q18 : N 18 = M2 18 := hf.1 18 rfl
  have q19 : N 19 = M2 19 := hf.1 19 rfl
  have q20 : N 20 = M2 20 := hf.1 20 rfl
  have q21 : N 21 = M2 21 := hf.1 21 rfl
  have q22 : N 22 = M2 22 := hf.1 22 rfl
  have q23 : N 23 = M2 23 := hf.1 23 rfl
  have hd : ∀ i, dct N i kk ↔ dct M2 i kk := fun i => by unfold dct; rw [q22, q23]
  refine zki_of rfl (Nat.le_of_ble_eq_true rfl) (SX10_isSoAfter_0 ?_)
  suffices hs : ∀ (j i : Nat), i + j = n → (∀ c : Int, 0 ≤ c → c < i → M2 18 c = x → dct M2 c kk → ((M2 20 c ≤ N 11 (M2 19 c)) ↔ M2 21 c = 1)) → zT g (z2 o) mX10_isSoAfter (zQi (z2 o) (fun r N' => r = zb (∀ i : Int, 0 ≤ i → i < M2 1 42 → M2 18 i = x → dct M2 i kk → ((M2 20 i ≤ N 11 (M2 19 i)) ↔ M2 21 i = 1)) ∧ N' = N)) 2 [(0, zA g 1), (1, zI x), (2, zI kk), (3, zI i)] [] N from hs n 0 (by omega) (fun c a b => by omega)
  intro j
  induction j with
  | zero =>
    intro i hi h
    refine SX10_isSoAfter_2 ⟨by omega, by omega, fun _ => ⟨?_, rfl⟩, fun h => by omega⟩
    rw [zb_t]
    rw [s2, ← show i = n by omega]; exact h
  | succ j ih =>
    intro i hi h
    obtain ⟨r1, r2, r3, r4, r5, r6, r7, r8, r9, r10⟩ := s4 i (by omega) (by omega)
    have go : (M2 18 i = x → dct M2 i kk → ((M2 20 i ≤ N 11 (M2 19 i)) ↔ M2 21 i = 1)) → zT g (z2 o) mX10_isSoAfter (zQi (z2 o) (fun r N' => r = zb (∀ i : Int, 0 ≤ i → i < M2 1 42 → M2 18 i = x → dct M2 i kk → ((M2 20 i ≤ N 11 (M2 19 i)) ↔ M2 21 i = 1)) ∧ N' = N)) 2 [(0, zA g 1), (1, zI x), (2, zI kk), (3, zI ((i : Int) + 1))] [] N := fun z => ih (i + 1) (by omega) (fun c a b => by
      by_cases q : c = i
      · rw [q]; exact z
      · exact h c a (by omega))
    have no : M2 18 i = x → dct M2 i kk → ¬ ((M2 20 i ≤ N 11 (M2 19 i)) ↔ M2 21 i = 1) → (0 : Int) = zb (∀ i : Int, 0 ≤ i → i < M2 1 42 → M2 18 i = x → dct M2 i kk → ((M2 20 i ≤ N 11 (M2 19 i)) ↔ M2 21 i = 1)) := fun z1 z2 z3 => (zb_f (fun w => z3 (w i (by omega) (by omega) z1 z2))).symm
    have bb := hb (M2 19 i) r6.1 (by omega)
    refine SX10_isSoAfter_2 ⟨by omega, by omega, fun h => by omega, fun _ => ⟨by omega, ?_⟩⟩
    rw [q18, q19, q20, q21, q22, q23, hd]
    refine ⟨by omega, hx, fun z => go (fun w => absurd w z), fun z => ⟨hk, by omega, by omega, fun w => go (fun _ w' => absurd w' w), fun w => ⟨by omega, by omega, by omega, fun u => ⟨by omega, fun v => go (fun _ _ => ⟨fun p => by omega, fun p => by omega⟩), fun v => ⟨no z w (fun p => by have := p.mpr (by omega); omega), rfl⟩⟩, fun u => ⟨by omega, fun v => go (fun _ _ => ⟨fun p => by omega, fun p => by omega⟩), fun v => ⟨no z w (fun p => by have := p.mp (by omega); omega), rfl⟩⟩⟩⟩⟩
theorem Jt.lst (hJ : Jt k C R M1 M2) (hf : fr2 M2 N) (hk : -2147483648 ≤ kk ∧ kk ≤ 2147483647) : zKi g (z2 o) mX10_lastSeen [zA g 1, zI kk] N (fun r N' => (0 ≤ r ∧ r ≤ 200) ∧ (∀ i : Int, 0 ≤ i → i < M2 1 42 → dct M2 i kk → M2 18 i ≤ r) ∧ N' = N) := by
  obtain ⟨n, s1, s2, s3, s4⟩ := hJ.2.2.2.2.2.2.1
  have q42 : N 1 42 = n := by rw [hf.2 42 (by decide)]; exact s2
  have q18 : N 18 = M2 18 := hf.1 18 rfl
  have q22 : N 22 = M2 22 := hf.1 22 rfl
  have q23 : N 23 = M2 23 := hf.1 23 rfl
  have hd : ∀ i, dct N i kk ↔ dct M2 i kk := fun i => by unfold dct; rw [q22, q23]
  refine zki_of rfl (Nat.le_of_ble_eq_true rfl) (SX10_lastSeen_0 ?_)
  suffices hs : ∀ (j i : Nat) (y : Int), i + j = n → (0 ≤ y ∧ y ≤ 200) → (∀ c : Int, 0 ≤ c → c < i → dct M2 c kk → M2 18 c ≤ y) → zT g (z2 o) mX10_lastSeen (zQi (z2 o) (fun r N' => (0 ≤ r ∧ r ≤ 200) ∧ (∀ i : Int, 0 ≤ i → i < M2 1 42 → dct M2 i kk → M2 18 i ≤ r) ∧ N' = N)) 4 [(0, zA g 1), (1, zI kk), (2, zI y), (3, zI i)] [] N from hs n 0 0 (by omega) (by decide) (fun c a b => by omega)
  intro j
  induction j with
  | zero =>
    intro i y hi hy h
    refine SX10_lastSeen_4 ⟨by omega, by omega, fun _ => ⟨hy, ?_, rfl⟩, fun h => by omega⟩
    rw [s2, ← show i = n by omega]; exact h
  | succ j ih =>
    intro i y hi hy h
    obtain ⟨r1, r2, r3, r4, r5, r6, r7, r8, r9, r10⟩ := s4 i (by omega) (by omega)
    refine SX10_lastSeen_4 ⟨by omega, by omega, fun h => by omega, fun _ => ⟨by omega, ?_⟩⟩
    rw [q18, q22, q23, hd]
    refine ⟨hk, by omega, by omega, fun z => ih (i + 1) y (by omega) hy (fun c a b e => ?_), fun z => ⟨by omega, by omega, ih (i + 1) _ (by omega) (by omega) (fun c a b e => ?_)⟩⟩
    · by_cases q : c = i
      · rw [q] at e; exact absurd e z
      · exact h c a (by omega) e
    · by_cases q : c = i
      · rw [q]; omega
      · have := h c a (by omega) e; omega
theorem Jt.fby (hJ : Jt k C R M1 M2) (hf : fr2 M2 N) (hs : 0 ≤ sd ∧ sd ≤ 49) (hk : -2147483648 ≤ kk ∧ kk ≤ 2147483647) : zKi g (z2 o) mX10_fitsBy [zA g 1, zI sd, zI kk] N (fun r N' => r = zb (FPs C R M2 kk sd) ∧ fr2 M2 N' ∧ N' 24 = N 24) := by
  obtain ⟨n0, s1, s2, s3, s4⟩ := hJ.2.2.2.2.2.2.1
  have hgn := geo_n hJ.lr.1.1
  refine zki_of rfl (Nat.le_of_ble_eq_true rfl) (SX10_fitsBy_0 ⟨_, c_asTold, fun A hq => ?_⟩)
  have hA : ∀ i : Int, 0 ≤ i → i < 198 → A 11 i = tld M2 sd i := fun i a b => by rw [hq.1 i a b, tld_of (hf.1 3 rfl) (hf.1 7 rfl) (hf.1 8 rfl)]
  have fA : fr2 M2 A := hf.trans (go_fr (fun b _ q => hq.2 b q) (fun i _ _ _ => by rw [hq.2 1 (by decide)]))
  have a24 : A 24 = N 24 := hq.2 24 (by decide)
  have bd : ∀ (n : Nat) (P : zM), n ≤ 500 → tdI C R M2 A P sd n → ∀ i : Int, 0 ≤ i → i < 96 → 0 ≤ P 11 i ∧ P 11 i ≤ 2000000000 := fun n P hn hI i a b => by have := hI.2.1.1 i a b; omega
  have I0 := hJ.td0 (by omega) hA fA
  refine ⟨_, hJ.lst fA hk, fun r7 M8 h7 => ?_⟩
  obtain ⟨l1, l2, l3⟩ := h7
  subst l3
  refine ⟨_, hJ.iso fA (bd 0 M8 (by decide) I0) (by decide) hk, fun r12 M13 h12 => ?_⟩
  obtain ⟨h12, h13⟩ := h12
  subst h13
  suffices hm : ∀ (f n : Nat) (P : zM), r7 - n ≤ f → n ≤ 200 → (n : Int) ≤ r7 → tdI C R M2 M13 P sd n → zT g (z2 o) mX10_fitsBy (zQi (z2 o) (fun r N' => r = zb (FPs C R M2 kk sd) ∧ fr2 M2 N' ∧ N' 24 = N 24)) 22 [(0, zA g 1), (2, zI kk), (3, zI r7), (4, zI (zb (∀ i : Int, 0 ≤ i → i < M2 1 42 → M2 18 i ≤ n → dct M2 i kk → sFit C R M2 i sd))), (5, zI ((n : Int) + 1))] [] P by
    have e : r12 = zb (∀ i : Int, 0 ≤ i → i < M2 1 42 → M2 18 i ≤ ((0 : Nat) : Int) → dct M2 i kk → sFit C R M2 i sd) := by
      rw [h12]
      refine zb_congr ⟨fun w i a b c e => ?_, fun w i a b c e => ?_⟩
      · obtain ⟨r1, r2, r3, r4, r5, r6, -⟩ := s4 i a (by omega)
        have z : M2 18 i = 0 := by omega
        have := w i a b z e
        unfold sFit
        rw [z]
        rw [I0.td r6.1 (by omega)] at this
        exact this
      · obtain ⟨r1, r2, r3, r4, r5, r6, -⟩ := s4 i a (by omega)
        have := w i a b (by omega) e
        unfold sFit at this
        rw [c] at this
        rw [I0.td r6.1 (by omega)]
        exact this
    rw [e]
    exact hm r7.toNat 0 M13 (by omega) (by decide) (by omega) I0
  intro f
  induction f with
  | zero =>
    intro n P hf0 hn hl hI
    have er : r7 = n := by omega
    refine SX10_fitsBy_22 ⟨by omega, by omega, fun _ => ⟨zb01 _, ?_, hI.1.fr fA, by rw [hI.1.1 24 (by decide) (by decide)]; exact a24⟩, fun h => by omega⟩
    refine zb_congr ⟨fun w i a b c => w i a b (by rw [← er]; exact l2 i a b c) c, fun w i a b _ c => w i a b c⟩
  | succ f ih =>
    intro n P hf0 hn hl hI
    have fP := hI.1.fr fA
    have p24 : P 24 = N 24 := by rw [hI.1.1 24 (by decide) (by decide)]; exact a24
    refine SX10_fitsBy_22 ⟨by omega, by omega, fun z => ⟨zb01 _, ?_, fP, p24⟩, fun z => ⟨zb_in _, fun w => ⟨zb01 _, ?_, fP, p24⟩, fun w => ⟨_, hJ.td1 hA fA (by omega) hI, fun r5 M6 hI2 => ?_⟩⟩⟩
    · refine zb_congr ⟨fun w i a b c => w i a b (by have := l2 i a b c; omega) c, fun w i a b _ c => w i a b c⟩
    · rw [w, zb_f]
      intro u
      exact zb_0.mp w (fun i a b _ c => u i a b c)
    · have w' : ∀ i : Int, 0 ≤ i → i < M2 1 42 → M2 18 i ≤ n → dct M2 i kk → sFit C R M2 i sd := Classical.byContradiction fun q => w (zb_f q)
      have e5 : ((n : Int) + 1) = ((n + 1 : Nat) : Int) := by omega
      refine ⟨_, hJ.iso (hI2.1.fr fA) (bd (n + 1) M6 (by omega) hI2) (by omega) hk, fun r10 M11 h10 => ?_⟩
      obtain ⟨h10, h11⟩ := h10
      subst h11
      have e : r10 = zb (∀ i : Int, 0 ≤ i → i < M2 1 42 → M2 18 i ≤ ((n + 1 : Nat) : Int) → dct M2 i kk → sFit C R M2 i sd) := by
        rw [h10]
        refine zb_congr ⟨fun u i a b c e => ?_, fun u i a b c e => ?_⟩
        · obtain ⟨r1, r2, r3, r4, r5, r6, -⟩ := s4 i a (by omega)
          by_cases q : M2 18 i ≤ n
          · exact w' i a b q e
          · have z : M2 18 i = ((n + 1 : Nat) : Int) := by omega
            have := u i a b (by omega) e
            unfold sFit
            rw [z, Int.toNat_natCast]
            rw [hI2.td r6.1 (by omega)] at this
            exact this
        · obtain ⟨r1, r2, r3, r4, r5, r6, -⟩ := s4 i a (by omega)
          have := u i a b (by omega) e
          unfold sFit at this
          rw [c, e5, Int.toNat_natCast] at this
          rw [hI2.td r6.1 (by omega)]
          exact this
      rw [e, e5]
      exact ih (n + 1) M11 (by omega) (by omega) (by omega) hI2
theorem Jt.lfs (hJ : Jt k C R M1 M2) (hk : -2147483648 ≤ kk ∧ kk ≤ 2147483647) : zKi g (z2 o) mX10_laysFits [zA g 1, zI kk] M2 (fun r N => r = cnt (fun s => FPs C R M2 kk s) 50 ∧ (∀ s : Int, 0 ≤ s → s < 50 → N 24 s = zb (FPs C R M2 kk s)) ∧ fr2 M2 N) := by
  refine zki_of rfl (Nat.le_of_ble_eq_true rfl) (SX10_laysFits_0 ?_)
  suffices hs : ∀ (j i : Nat) (N : zM), i + j = 50 → fr2 M2 N → (∀ s : Int, 0 ≤ s → s < i → N 24 s = zb (FPs C R M2 kk s)) → zT g (z2 o) mX10_laysFits (zQi (z2 o) (fun r N => r = cnt (fun s => FPs C R M2 kk s) 50 ∧ (∀ s : Int, 0 ≤ s → s < 50 → N 24 s = zb (FPs C R M2 kk s)) ∧ fr2 M2 N)) 4 [(0, zA g 1), (1, zI kk), (2, zI (cnt (fun s => FPs C R M2 kk s) i)), (3, zI i)] [] N from hs 50 0 M2 rfl fr2.rf (fun s a b => by omega)
  intro j
  induction j with
  | zero =>
    intro i N hi hf h
    have e50 : i = 50 := by omega
    subst e50
    exact SX10_laysFits_4 ⟨by omega, fun _ => ⟨rfl, fun s a b => h s a (by omega), hf⟩, fun h => by omega⟩
  | succ j ih =>
    intro i N hi hf h
    refine SX10_laysFits_4 ⟨by omega, fun h => by omega, fun _ => ⟨_, hJ.fby hf (by omega) hk, fun r3 M4 hq => ?_⟩⟩
    obtain ⟨q1, q2, q3⟩ := hq
    have z01 := zb01 (FPs C R M2 kk i)
    rw [q1]
    refine ⟨by omega, z01, by rw [zu_at]; exact z01, ?_⟩
    rw [zu_at]
    refine ih (i + 1) _ (by omega) (q2.trans (fr2_of (l := [24]) (fs := []) (fun b _ p => zu_other (fun e => p (by rw [e]; decide))) (fun i _ => by rw [zu_other (by decide)]) rfl rfl)) (fun s a b => ?_)
    rw [zu_row]
    by_cases q : s = i
    · rw [if_pos q, q]
    · rw [if_neg q, q3]; exact h s a (by omega)
theorem p_fits (hJ : Jt k C R M1 M2) (hk : k < 1000) (h1 : -2147483648 ≤ x1 ∧ x1 ≤ 2147483647) : zE g g' o o' mX9_fits mX10_fits [zI x1] k M1 M2 := by
  refine zE_of (A := cnt (fun s => FPs C R M2 x1 s) 50) hJ hk (zki_of rfl (Nat.le_of_ble_eq_true rfl) (SX9_fits_0 ⟨_, hJ.fitc h1, fun r2 M3 hq => ?_⟩)) (zki_of rfl (Nat.le_of_ble_eq_true rfl) (SX10_fits_0 ⟨_, hJ.lfs h1, fun r2 M3 hq => ⟨hq.1, hq.2.2⟩⟩))
  obtain ⟨x, q1, q2, q3, q4⟩ := hq
  subst q4
  rw [q1]
  refine ⟨_, c_bitCount q2, fun r7 M8 h7 => ⟨?_, by rw [h7.2]; exact fr1.rf⟩⟩
  rw [h7.1]
  refine cnt_congr (fun i a b => ?_)
  obtain ⟨j, rfl⟩ := znn a
  rw [hld_bit]; exact q3 j (by omega)
/-- a seed's number among those that fit -/
noncomputable def lfn (P : Int → Prop) (s : Int) : Int := if zb (P s) = 1 then cnt P s.toNat else -1
theorem fcl_no {L : Int → Int} (n : Nat) (h : ∀ i : Nat, i < n → L i ≠ d) : fcl L d n = -1 := by
  induction n with
  | zero => rfl
  | succ n ih => unfold fcl; rw [if_pos (ih (fun i hi => h i (by omega))), if_neg (h n (by omega))]
theorem cnt_mono {P : Int → Prop} {i j : Nat} (h : i ≤ j) : cnt P i ≤ cnt P j := by
  obtain ⟨t, rfl⟩ : ∃ t, j = i + t := ⟨j - i, by omega⟩
  clear h
  induction t with
  | zero => exact Int.le_refl _
  | succ t ih =>
    show cnt P i ≤ cnt P (i + t) + zb (P ((i + t : Nat) : Int))
    have := zb01 (P ((i + t : Nat) : Int)); omega
theorem p_fit (hJ : Jt k C R M1 M2) (hk : k < 1000) (h1 : -2147483648 ≤ x1 ∧ x1 ≤ 2147483647) (h2 : -2147483648 ≤ x2 ∧ x2 ≤ 2147483647) : zE g g' o o' mX9_fit mX10_fit [zI x1, zI x2] k M1 M2 := by
  obtain ⟨P, hP⟩ : ∃ P : Int → Prop, P = fun s => FPs C R M2 x2 s := ⟨_, rfl⟩
  have cb : ∀ i : Nat, 0 ≤ cnt P i ∧ cnt P i ≤ i := fun i => cnt_in P i
  have ft : ∀ i : Nat, P i → lfn P i = cnt P i := fun i h => by unfold lfn; rw [if_pos (zb_t h), Int.toNat_natCast]
  have ff : ∀ i : Nat, ¬ P i → lfn P i = -1 := fun i h => by unfold lfn; rw [if_neg (by rw [zb_f h]; decide)]
  have fs : ∀ i : Nat, fcl (lfn P) x1 (i + 1) = if fcl (lfn P) x1 i = -1 then (if lfn P i = x1 then (i : Int) else -1) else fcl (lfn P) x1 i := fun i => rfl
  by_cases hx : 0 ≤ x1
  · refine zE_of (A := fcl (lfn P) x1 50) hJ hk (zki_of rfl (Nat.le_of_ble_eq_true rfl) (SX9_fit_0 ⟨h1, fun _ => ⟨_, hJ.fitc h2, fun r3 M4 hq => ?_⟩, fun h => absurd hx h⟩)) (zki_of rfl (Nat.le_of_ble_eq_true rfl) (SX10_fit_0 ⟨_, hJ.lfs h2, fun r2 M3 hq => ?_⟩))
    · obtain ⟨x, q1, q2, q3, q4⟩ := hq
      subst q4
      rw [q1]
      have hp : ∀ i : Nat, i < 50 → (hld x i ↔ P i) := fun i hi => by rw [hld_bit, q3 i hi, hP]
      suffices hs : ∀ (j i : Nat), i + j = 50 → fcl (lfn P) x1 i = -1 → zT g (z1 o) mX9_fit (zQi (z1 o) (fun r N => r = fcl (lfn P) x1 50 ∧ fr1 M4 N)) 21 [(1, zI x1), (3, zL x), (5, zI (cnt P i)), (6, zI i)] [] M4 from hs 50 0 rfl rfl
      intro j
      induction j with
      | zero =>
        intro i hi h
        have e50 : i = 50 := by omega
        subst e50
        exact SX9_fit_21 ⟨by omega, fun _ => ⟨h.symm, fr1.rf⟩, fun h => by omega⟩
      | succ j ih =>
        intro i hi h
        have ci := cb i
        have ec : cnt P (i + 1) = cnt P i + zb (P i) := rfl
        have nx := ih (i + 1) (by omega)
        refine SX9_fit_21 ⟨by omega, fun h => by omega, fun _ => ⟨by have : x < 2 ^ 50 := q2; omega, by omega, fun z => ?_, fun z => ⟨by omega, h1, fun w => ?_, fun w => ⟨?_, fr1.rf⟩⟩⟩⟩
        · have np : ¬ P i := fun w => z ((hp i (by omega)).mpr w)
          rw [ec, zb_f np, Int.add_zero] at nx
          exact nx (by rw [fs, if_pos h, if_neg (by rw [ff i np]; omega)])
        · have pp := (hp i (by omega)).mp z
          rw [ec, zb_t pp] at nx
          exact nx (by rw [fs, if_pos h, if_neg (by rw [ft i pp]; exact w)])
        · have pp := (hp i (by omega)).mp z
          have e : fcl (lfn P) x1 (i + 1) = i := by rw [fs, if_pos h, if_pos (by rw [ft i pp]; exact w)]
          have := fcl_stay (L := lfn P) (d := x1) (i + 1) j (by rw [e]; omega)
          rw [show i + 1 + j = 50 by omega] at this
          rw [this, e]
    · obtain ⟨q1, q2, q3⟩ := hq
      rw [← hP] at q1
      rw [q1]
      have c50 := cb 50
      suffices hs : ∀ (j i : Nat), i + j = 50 → fcl (lfn P) x1 i = -1 → zT g' (z2 o') mX10_fit (zQi (z2 o') (fun r N => r = fcl (lfn P) x1 50 ∧ fr2 M2 N)) 12 [(0, zA g' 1), (1, zI x1), (3, zI (cnt P 50)), (4, zI (cnt P i)), (5, zI i)] [] M3 from hs 50 0 rfl rfl
      intro j
      induction j with
      | zero =>
        intro i hi h
        have e50 : i = 50 := by omega
        subst e50
        exact SX10_fit_12 ⟨by omega, fun _ => ⟨h.symm, q3⟩, fun h => by omega⟩
      | succ j ih =>
        intro i hi h
        have ci := cb i
        have ec : cnt P (i + 1) = cnt P i + zb (P i) := rfl
        have nx := ih (i + 1) (by omega)
        have e24 : M3 24 i = zb (P i) := by rw [q2 i (by omega) (by omega), hP]
        have z01 := zb01 (P i)
        refine SX10_fit_12 ⟨by omega, fun h => by omega, fun _ => ⟨h1, by omega, fun z => ⟨?_, q3⟩, fun z => ⟨by omega, by omega, fun w => ⟨by omega, h1, fun u => ?_, fun u => ⟨?_, q3⟩⟩, fun w => ?_⟩⟩⟩
        · refine (fcl_no 50 (fun t ht => ?_)).symm
          by_cases pt : P t
          · rw [ft t pt]
            have h1 := cnt_mono (P := P) (i := t + 1) (j := 50) (by omega)
            have h2 : cnt P (t + 1) = cnt P t + zb (P t) := rfl
            rw [zb_t pt] at h2
            omega
          · rw [ff t pt]; omega
        · have pp : P i := by rw [e24] at w; exact Classical.byContradiction fun q => w (zb_f q)
          rw [ec, zb_t pp] at nx
          exact nx (by rw [fs, if_pos h, if_neg (by rw [ft i pp]; exact u)])
        · have pp : P i := by rw [e24] at w; exact Classical.byContradiction fun q => w (zb_f q)
          have e : fcl (lfn P) x1 (i + 1) = i := by rw [fs, if_pos h, if_pos (by rw [ft i pp]; exact u)]
          have := fcl_stay (L := lfn P) (d := x1) (i + 1) j (by rw [e]; omega)
          rw [show i + 1 + j = 50 by omega] at this
          rw [this, e]
        · have np : ¬ P i := by rw [e24] at w; exact zb_0.mp w
          rw [ec, zb_f np, Int.add_zero] at nx
          exact nx (by rw [fs, if_pos h, if_neg (by rw [ff i np]; omega)])
  · refine zE_of (A := -1) hJ hk (zki_of rfl (Nat.le_of_ble_eq_true rfl) (SX9_fit_0 ⟨h1, fun h => absurd h hx, fun _ => ⟨rfl, fr1.rf⟩⟩)) (zki_of rfl (Nat.le_of_ble_eq_true rfl) (SX10_fit_0 ⟨_, hJ.lfs h2, fun r2 M3 hq => ?_⟩))
    have c50 := cnt_in (fun s => FPs C R M2 x2 s) 50
    rw [← hq.1] at c50
    exact SX10_fit_12 ⟨by omega, fun _ => ⟨rfl, hq.2.2⟩, fun _ => ⟨h1, by omega, fun _ => ⟨rfl, hq.2.2⟩, fun h => by omega⟩⟩
end FT
