/-! the drafts side by side -/
def T10 : List (Nat × Int × Int × Int × Int) := [(8, 0, 10, 3, 12), (8, 1, 11, 1, 8), (8, 2, 12, 0, 9), (9, 0, 13, 1, 6), (9, 1, 14, 1, 9), (8, 3, 15, 1, 9), (9, 2, 16, 0, 16), (9, 3, 17, 0, 16), (8, 4, 18, 0, 9999), (8, 6, 19, 1, 8)]
def eqT (X M : zM) : Prop := ∀ e ∈ T10, M 3 e.2.2.1 = X e.1 e.2.1 ∧ e.2.2.2.1 ≤ X e.1 e.2.1 ∧ X e.1 e.2.1 ≤ e.2.2.2.2
def wdQ (X M : zM) : Prop := ∀ i : Int, 0 ≤ i → i < X 8 6 → M 4 (8 + i) = X 12 i ∧ M 5 (8 + i) = X 13 i ∧ (0 ≤ X 12 i ∧ X 12 i ≤ 3) ∧ 1 ≤ X 13 i ∧ X 13 i ≤ 99
def clQ (X M : zM) : Prop := ∀ c : Int, 0 ≤ c → c < 96 → M 6 (96 + c) = X 10 c ∧ 0 ≤ X 10 c ∧ M 7 (96 + c) = X 11 c ∧ 0 ≤ X 11 c ∧ X 11 c ≤ 1
def hpQ (X M : zM) : Prop := M 1 20 = X 8 5 ∧ (0 ≤ X 8 5 ∧ X 8 5 ≤ 20) ∧ smt (X 10) 96 ≤ 50 * X 8 5
def hix : List Int := [0, 1, 4, 5, 6, 7, 8, 9]
def hsQ (X M : zM) : Prop := (0 ≤ X 8 7 ∧ X 8 7 < 1024) ∧ ∀ i : Nat, i < 8 → (M 9 i = 0 ∨ M 9 i = 1) ∧ (M 9 i = 1 ↔ bt (X 8 7) (hix.getD i 0))
def DQ (X M : zM) : Prop := eqT X M ∧ wdQ X M ∧ clQ X M ∧ hpQ X M ∧ hsQ X M
/-- lines change upper halves alone -/
def lF (M N : zM) : Prop := (∀ c : Nat, c = 2 ∨ c = 8 ∨ 10 ≤ c → N c = M c) ∧ (∀ i : Int, i < 10 → N 3 i = M 3 i) ∧ (∀ i : Int, i < 8 → N 4 i = M 4 i ∧ N 5 i = M 5 i) ∧ (∀ i : Int, i < 96 → N 6 i = M 6 i ∧ N 7 i = M 7 i) ∧ ∀ i : Int, i = 1 ∨ i = 2 ∨ i = 9 ∨ i = 10 ∨ (21 ≤ i) → N 1 i = M 1 i
/-- behind a line's word -/
def Y0 (X : zM) (k : Int) : zM := zu (pst X (adS (X 4) (gst X))) 8 7 (sbt (X 8 7) k)
def LPo (N0 : zM) (pos : Nat → Int) (T : Nat) (M Y N : zM) : Prop := RLk N0 pos T (gst Y) N ∧ ((gst Y).2.1 = 0 → DQ Y N) ∧ lF M N ∧ N 1 19 = M 1 19
section PL
variable {g : zG} {o : Bool} {M N N0 M' X X' Z : zM} {lo hi k w L v : Int} {b : Int → Int} {pos : Nat → Int} {T : Nat} {s : Rs}
theorem T10_b : (T10.all fun e => T10.all fun e' => (e'.2.2.1 != e.2.2.1 || e' == e) && (e'.1 != e.1 || e'.2.1 != e.2.1 || e' == e)) = true := by decide
theorem T10_d : ∀ e ∈ T10, ∀ e' ∈ T10, (e'.2.2.1 = e.2.2.1 → e' = e) ∧ (e'.1 = e.1 → e'.2.1 = e.2.1 → e' = e) := fun e he e' he' => by
  have h := List.all_eq_true.mp (List.all_eq_true.mp T10_b e he) e' he'
  rw [Bool.and_eq_true, Bool.or_eq_true, Bool.or_eq_true, Bool.or_eq_true, bne_iff_ne, bne_iff_ne, bne_iff_ne, beq_iff_eq] at h
  exact ⟨fun a => h.1.resolve_left (fun z => z a), fun a c => h.2.resolve_left (fun z => z.elim (fun y => y a) (fun y => y c))⟩
theorem T10_r : ∀ e ∈ T10, (e.1 = 8 ∨ e.1 = 9) ∧ ¬ (e.1 = 8 ∧ e.2.1 = 7) ∧ ¬ (e.1 = 8 ∧ e.2.1 = 5) ∧ 10 ≤ e.2.2.1 ∧ e.2.2.1 ≤ 19 ∧ e.2.2.2.1 ≤ e.2.2.2.2 ∧ -2147483648 ≤ e.2.2.2.1 ∧ e.2.2.2.2 ≤ 2147483647 := by decide
theorem eqT.of (h : eqT X M) (hX : ∀ e ∈ T10, X' e.1 e.2.1 = X e.1 e.2.1) (hM : ∀ i : Int, 10 ≤ i → i ≤ 19 → M' 3 i = M 3 i) : eqT X' M' := fun e he => by
  have r := T10_r e he
  rw [hX e he, hM _ r.2.2.2.1 r.2.2.2.2.1]; exact h e he
theorem eqT.put {e : Nat × Int × Int × Int × Int} (h : eqT Z M) (he : e ∈ T10) (hv : e.2.2.2.1 ≤ v ∧ v ≤ e.2.2.2.2) (hM : ∀ i : Int, i ≠ e.2.2.1 → M' 3 i = M 3 i) (hM' : M' 3 e.2.2.1 = v) : eqT (zu Z e.1 e.2.1 v) M' := fun e' he' => by
  by_cases q : e' = e
  · subst q
    rw [zu_at]; exact ⟨hM', hv⟩
  · have d := T10_d e he e' he'
    have x : zu Z e.1 e.2.1 v e'.1 e'.2.1 = Z e'.1 e'.2.1 := by
      unfold zu
      rw [if_neg (fun z => q (d.2 z.1 z.2))]
    rw [x, hM _ (fun z => q (d.1 z))]; exact h e' he'
theorem wdQ.of (h : wdQ X M) (e6 : X' 8 6 = X 8 6) (e12 : X' 12 = X 12) (e13 : X' 13 = X 13) (m4 : M' 4 = M 4) (m5 : M' 5 = M 5) : wdQ X' M' := by unfold wdQ; rw [e6, e12, e13, m4, m5]; exact h
theorem clQ.of (h : clQ X M) (e10 : X' 10 = X 10) (e11 : X' 11 = X 11) (m6 : M' 6 = M 6) (m7 : M' 7 = M 7) : clQ X' M' := by unfold clQ; rw [e10, e11, m6, m7]; exact h
theorem hpQ.of (h : hpQ X M) (e5 : X' 8 5 = X 8 5) (e10 : X' 10 = X 10) (m : M' 1 20 = M 1 20) : hpQ X' M' := by unfold hpQ; rw [e5, e10, m]; exact h
theorem bt_hld (x j : Int) : bt x j = hld x j := rfl
theorem sbt_in {x j : Int} (hx : 0 ≤ x ∧ x < 1024) (hj : 0 ≤ j ∧ j ≤ 9) : 0 ≤ sbt x j ∧ sbt x j < 1024 := by
  unfold sbt
  have h1 : x.toNat < 2 ^ 10 := by show x.toNat < 1024; omega
  have h2 : 2 ^ j.toNat < 2 ^ 10 := Nat.pow_lt_pow_right (by decide) (by omega)
  have := Nat.or_lt_two_pow h1 h2
  have : x.toNat ||| 2 ^ j.toNat < 1024 := this
  omega
theorem bt_sbt {x j i : Int} (hx : 0 ≤ x ∧ x < 1024) (hj : 0 ≤ j ∧ j ≤ 9) (hi : 0 ≤ i ∧ i ≤ 9) : bt (sbt x j) i ↔ (bt x i ∨ i = j) := by
  obtain ⟨a, rfl⟩ := znn hx.1
  obtain ⟨c, rfl⟩ := znn hj.1
  obtain ⟨d, rfl⟩ := znn hi.1
  rw [bt_hld, bt_hld]
  unfold sbt
  rw [hld_bit, hld_bit, Int.toNat_natCast, Int.toNat_natCast, Nat.testBit_or, Nat.testBit_two_pow, Bool.or_eq_true, decide_eq_true_eq]
  constructor
  · intro z
    rcases z with z | z
    · exact Or.inl z
    · exact Or.inr (by omega)
  · intro z
    rcases z with z | z
    · exact Or.inl z
    · exact Or.inr (by omega)
theorem hix_r : ∀ i, i < 8 → 0 ≤ hix.getD i 0 ∧ hix.getD i 0 ≤ 9 ∧ hix.getD i 0 ≠ 2 ∧ hix.getD i 0 ≠ 3 := by decide
theorem hix_d : ∀ i, i < 8 → ∀ j, j < 8 → hix.getD i 0 = hix.getD j 0 → i = j := by decide
/-- a line is told now -/
theorem hsQ.up {j : Nat} (h : hsQ X M) (hj : j < 8) (e7 : X' 8 7 = sbt (X 8 7) (hix.getD j 0)) (m : ∀ i : Int, M' 9 i = if i = j then 1 else M 9 i) : hsQ X' M' := by
  obtain ⟨h1, h2⟩ := h
  have r := hix_r j hj
  refine ⟨by rw [e7]; exact sbt_in h1 ⟨r.1, r.2.1⟩, fun i hi => ?_⟩
  have ri := hix_r i hi
  rw [m, e7, bt_sbt h1 ⟨r.1, r.2.1⟩ ⟨ri.1, ri.2.1⟩]
  by_cases q : i = j
  · subst q
    rw [if_pos rfl]; exact ⟨Or.inr rfl, fun _ => Or.inr rfl, fun _ => rfl⟩
  · rw [if_neg (by omega)]
    refine ⟨(h2 i hi).1, fun z => Or.inl ((h2 i hi).2.mp z), fun z => ?_⟩
    rcases z with z | z
    · exact (h2 i hi).2.mpr z
    · exact absurd (hix_d i hi j hj z) q
theorem hsQ.up23 (h : hsQ X M) (hk : k = 2 ∨ k = 3) (e7 : X' 8 7 = sbt (X 8 7) k) (m : M' 9 = M 9) : hsQ X' M' := by
  obtain ⟨h1, h2⟩ := h
  refine ⟨by rw [e7]; exact sbt_in h1 (by omega), fun i hi => ?_⟩
  have ri := hix_r i hi
  rw [m, e7, bt_sbt h1 (by omega) ⟨ri.1, ri.2.1⟩]
  refine ⟨(h2 i hi).1, fun z => Or.inl ((h2 i hi).2.mp z), fun z => ?_⟩
  rcases z with z | z
  · exact (h2 i hi).2.mpr z
  · omega
theorem hsQ.of (h : hsQ X M) (e7 : X' 8 7 = X 8 7) (m : M' 9 = M 9) : hsQ X' M' := by unfold hsQ; rw [e7, m]; exact h
theorem lF.rf : lF M M := ⟨fun _ _ => rfl, fun _ _ => rfl, fun _ _ => ⟨rfl, rfl⟩, fun _ _ => ⟨rfl, rfl⟩, fun _ _ => rfl⟩
theorem lF.trans (h : lF M N) (h' : lF N M') : lF M M' := ⟨fun c a => (h'.1 c a).trans (h.1 c a), fun i a => (h'.2.1 i a).trans (h.2.1 i a), fun i a => ⟨(h'.2.2.1 i a).1.trans (h.2.2.1 i a).1, (h'.2.2.1 i a).2.trans (h.2.2.1 i a).2⟩, fun i a => ⟨(h'.2.2.2.1 i a).1.trans (h.2.2.2.1 i a).1, (h'.2.2.2.1 i a).2.trans (h.2.2.2.1 i a).2⟩, fun i a => (h'.2.2.2.2 i a).trans (h.2.2.2.2 i a)⟩
theorem pF.lF (h : pF M N) : lF M N := ⟨fun c a => h.1 c (by omega), fun i _ => by rw [h.1 3 (by decide)], fun i _ => by rw [h.1 4 (by decide), h.1 5 (by decide)]; exact ⟨rfl, rfl⟩, fun i _ => by rw [h.1 6 (by decide), h.1 7 (by decide)]; exact ⟨rfl, rfl⟩, fun i a => h.2 i (by omega) (by omega) (by omega) (by omega) (by omega) (by omega) (by omega)⟩
theorem pF.f19 (h : pF M N) : N 1 19 = M 1 19 := h.2 19 (by decide) (by decide) (by decide) (by decide) (by decide) (by decide) (by decide)
theorem pF.f20 (h : pF M N) : N 1 20 = M 1 20 := h.2 20 (by decide) (by decide) (by decide) (by decide) (by decide) (by decide) (by decide)
theorem lF.put {c : Nat} {i : Int} (hc : (c = 3 ∧ 10 ≤ i) ∨ ((c = 4 ∨ c = 5) ∧ 8 ≤ i) ∨ ((c = 6 ∨ c = 7) ∧ 96 ≤ i) ∨ c = 9 ∨ (c = 1 ∧ i = 20)) : lF M (zu M c i v) := by
  refine ⟨fun d hd => by rw [zu_other (by omega)], fun j hj => ?_, fun j hj => ⟨?_, ?_⟩, fun j hj => ⟨?_, ?_⟩, fun j hj => ?_⟩
  all_goals
    unfold zu
    rw [if_neg (by omega)]
theorem RBx.lF (h : RBx b L M) (hf : lF M N) : RBx b L N := ⟨by rw [hf.1 2 (Or.inl rfl)]; exact h.1, h.2.1, by rw [hf.2.2.2.2 2 (by decide)]; exact h.2.2⟩
theorem RLk.row {c : Nat} {i : Int} (h : RLk N0 pos T s M) (hc : c ≠ 1 ∨ i = 20 ∨ i = 19) : RLk N0 pos T s (zu M c i v) := h.of (fun j hj => by
  unfold zu
  rw [if_neg (by omega)])
/-- told once alone -/
theorem r_once {i : Nat} (hT : TS b L N0 pos T) (hB : RBx b L M) (hR : RLk N0 pos T s M) (h0 : s.2.1 = 0) (hk : N0 4 s.1 = 1) (hi : i < 8) (h9 : M 9 i = 0 ∨ M 9 i = 1) : zKi g (z2 o) mX10_once [zA g 1, zI i] M (fun r N => (M 9 i = 1 → r = 0 ∧ RLk N0 pos T (rfS (N0 5) 3 s.1 s) N ∧ pF M N) ∧ (M 9 i = 0 → r = 1 ∧ RLk N0 pos T (adS (N0 4) s) N ∧ pF (zu M 9 i 1) N)) := by
  have m7 := hR.wz.1.mp h0
  refine zki_of rfl (Nat.le_of_ble_eq_true rfl) (SX10_once_0 ⟨by omega, by omega, fun z => ⟨by omega, fun _ => ⟨_, r_goOn (M := zu M 9 i 1) hT (hB.lF (lF.put (by omega))) (hR.row (Or.inl (by decide))) h0 (by omega), fun N hN => ⟨fun y => by omega, fun _ => ⟨rfl, hN.1, hN.2⟩⟩⟩, fun y => by omega⟩, fun z => ⟨hR.1, fun N e => ?_⟩⟩)
  have hw := r_wr (k := 3) hR (by decide)
  rw [if_neg (by omega), ← e] at hw
  have n7 := hw.wz
  have rs : (rfS (N0 5) 3 s.1 s).2.1 = 3 := by unfold rfS; rw [if_pos h0]
  rw [rs] at n7
  have : N 1 7 ≠ 0 := fun y => by have := n7.1.mpr y; omega
  have h17 := hw.1.1
  refine ⟨by omega, fun y => by omega, fun _ => ⟨fun _ => ⟨rfl, hw, by rw [e]; exact wr_pF⟩, fun y => absurd y z⟩⟩
theorem Y0_8 {i : Int} (h : i ≠ 7) : Y0 X k 8 i = X 8 i := by unfold Y0; rw [zu_row, if_neg h, pst_o (by decide)]
theorem Y0_o {c : Nat} (h7 : c ≠ 7) (h8 : c ≠ 8) : Y0 X k c = X c := by unfold Y0; rw [zu_other h8, pst_o h7]
theorem Y0_g : gst (Y0 X k) = adS (X 4) (gst X) := by unfold Y0; rw [gst_zu (by decide), gst_pst]
theorem Y0_87 : Y0 X k 8 7 = sbt (X 8 7) k := by unfold Y0; rw [zu_at]
/-- a line of one number -/
theorem DQ.num {e : Nat × Int × Int × Int × Int} {j : Nat} (h : DQ X M) (he : e ∈ T10) (h86 : ¬ (e.1 = 8 ∧ e.2.1 = 6)) (hj : j < 8) (hk : hix.getD j 0 = k) (hr : rdO (Y0 X k)) (M1 : zM) (hp : pF (zu M 9 j 1) M1) (hM3 : ∀ i : Int, i ≠ e.2.2.1 → M' 3 i = M1 3 i) (hM3' : M' 3 e.2.2.1 = nmV (Y0 X k 4) (Y0 X k 6) e.2.2.2.1 e.2.2.2.2 (gst (Y0 X k))) (hMo : ∀ c : Nat, c ≠ 3 → M' c = M1 c) : DQ (numF e.2.2.2.1 e.2.2.2.2 e.1 e.2.1 (Y0 X k)) M' := by
  obtain ⟨h1, h2, h3, h4, h5⟩ := h
  have r := T10_r e he
  have vin := nmV_in (lo := e.2.2.2.1) (hi := e.2.2.2.2) hr r.2.2.2.2.2.1
  have x8 : ∀ i : Int, i ≠ 7 → ¬ (e.1 = 8 ∧ e.2.1 = i) → numF e.2.2.2.1 e.2.2.2.2 e.1 e.2.1 (Y0 X k) 8 i = X 8 i := fun i hi hne => by
    unfold numF zu
    rw [if_neg (fun z => hne ⟨z.1.symm, z.2.symm⟩), nmF_o (by decide), Y0_8 hi]
  have xo : ∀ c : Nat, c ≠ 7 → c ≠ 8 → c ≠ 9 → numF e.2.2.2.1 e.2.2.2.2 e.1 e.2.1 (Y0 X k) c = X c := fun c c7 c8 c9 => by rw [numF_o c7 (by omega), Y0_o c7 c8]
  have mo : ∀ c : Nat, c ≠ 1 → c ≠ 3 → c ≠ 9 → M' c = M c := fun c c1 c3 c9 => by rw [hMo c c3, hp.1 c c1, zu_other c9]
  refine ⟨?_, h2.of (x8 6 (by decide) h86) (xo 12 (by decide) (by decide) (by decide)) (xo 13 (by decide) (by decide) (by decide)) (mo 4 (by decide) (by decide) (by decide)) (mo 5 (by decide) (by decide) (by decide)), h3.of (xo 10 (by decide) (by decide) (by decide)) (xo 11 (by decide) (by decide) (by decide)) (mo 6 (by decide) (by decide) (by decide)) (mo 7 (by decide) (by decide) (by decide)), h4.of (x8 5 (by decide) r.2.2.1) (xo 10 (by decide) (by decide) (by decide)) (by rw [hMo 1 (by decide), hp.f20, zu_other (by decide)]), h5.up hj ?_ (fun i => by rw [hMo 9 (by decide), hp.1 9 (by decide), zu_row])⟩
  · refine eqT.put (M := M1) ?_ he vin hM3 hM3'
    refine h1.of (fun e' he' => ?_) (fun i a c => by rw [hp.1 3 (by decide), zu_other (by decide)])
    have r' := T10_r e' he'
    rw [nmF_o (by omega)]
    unfold Y0 zu
    rw [if_neg r'.2.1, pst_o (by omega)]
  · unfold numF zu
    rw [if_neg (fun z => r.2.1 ⟨z.1.symm, z.2.symm⟩), nmF_o (by decide)]
    rw [hk]; exact Y0_87
theorem r_simple {e : Nat × Int × Int × Int × Int} {j : Nat} {wt : Int} (hT : TS b L N0 pos T) (hB : RBx b L M) (hR : RLk N0 pos T (gst X) M) (h0 : (gst X).2.1 = 0) (hk1 : N0 4 (gst X).1 = 1) (hX : X 4 = N0 4 ∧ X 5 = N0 5 ∧ X 6 = N0 6) (hD : DQ X M) (hO : rdO X) (he : e ∈ T10) (h86 : ¬ (e.1 = 8 ∧ e.2.1 = 6)) (hj : j < 8) (hk : hix.getD j 0 = k) (hwt : e.2.2.1 = 10 + wt) :
    zKv g (z2 o) mX10_simple [zA g 1, zI j, zI wt, zI e.2.2.2.1, zI e.2.2.2.2] M (fun N => (bt (X 8 7) k → RLk N0 pos T (rfS (N0 5) 3 (gst X).1 (gst X)) N ∧ lF M N) ∧ (¬ bt (X 8 7) k → LPo N0 pos T M (numF e.2.2.2.1 e.2.2.2.2 e.1 e.2.1 (Y0 X k)) N)) := by
  obtain ⟨x4, x5, x6⟩ := hX
  have r := T10_r e he
  have hs := hD.2.2.2.2.2 j hj
  rw [hk] at hs
  have hw := hR.wz
  refine zkv_of rfl (Nat.le_of_ble_eq_true rfl) (SX10_simple_0 ⟨_, r_once hT hB hR h0 hk1 hj hs.1, fun r2 M3 h3 => ?_⟩)
  by_cases hb : bt (X 8 7) k
  · obtain ⟨a1, a2, a3⟩ := h3.1 (hs.2.mpr hb)
    refine ⟨by omega, fun z => absurd a1 z, fun _ => ⟨fun _ => ⟨a2, a3.lF⟩, fun z => absurd hb z⟩⟩
  · have m0 : M 9 j = 0 := by
      rcases hs.1 with z | z
      · exact z
      · exact absurd (hs.2.mp z) hb
    obtain ⟨a1, a2, a3⟩ := h3.2 m0
    have hB3 : RBx b L M3 := (hB.lF (lF.put (c := 9) (i := j) (v := 1) (by omega))).pF a3
    refine ⟨by omega, fun _ => ⟨_, r_number hT hB3 a2 (by omega) (by omega), fun r8 M9 h9 => ?_⟩, fun z => by omega⟩
    obtain ⟨n1, n2, n3⟩ := h9
    have eg : gst (numF e.2.2.2.1 e.2.2.2.2 e.1 e.2.1 (Y0 X k)) = nmS (N0 4) (N0 5) (N0 6) e.2.2.2.1 e.2.2.2.2 (adS (N0 4) (gst X)) := by
      unfold numF; rw [gst_zu (by omega), nmF_g, Y0_g, Y0_o (by decide) (by decide), Y0_o (by decide) (by decide), Y0_o (by decide) (by decide), x4, x5, x6]
    have hp := a3.trans n3
    have lf : lF M M9 := (lF.put (c := 9) (i := j) (v := 1) (by omega)).trans hp.lF
    have f19 : M9 1 19 = M 1 19 := by rw [hp.f19, zu_other (by decide)]
    have nw := n1.wz
    refine ⟨n1.1, fun z => ⟨fun y => absurd y hb, fun _ => ⟨by rw [eg]; exact n1, fun y => ?_, lf, f19⟩⟩, fun z => ⟨by omega, fun y => absurd y hb, fun _ => ⟨by rw [eg]; exact n1.row (Or.inl (by decide)), fun y => ?_, lf.trans (lF.put (by omega)), by rw [zu_other (by decide)]; exact f19⟩⟩⟩
    · rw [eg] at y; exact absurd (nw.1.mp y) z
    · rw [eg] at y
      have hr0 : rdO (Y0 X k) := (rdO_pst.mpr (rdK.ad hO)).zu (by decide) (by decide) (by decide)
      refine hD.num he h86 hj hk hr0 M9 hp (fun i hi => by rw [zu_row, if_neg (by omega)]) ?_ (fun c hc => zu_other hc)
      rw [hwt, zu_at, n2 y, Y0_g, Y0_o (by decide) (by decide), Y0_o (by decide) (by decide), x4, x6]
end PL
