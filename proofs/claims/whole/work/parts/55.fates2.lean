/-- the best so far above 0, and where -/
def sb0 (F : Int → Int) : Nat → Int × Int
  | 0 => (0, -1)
  | j + 1 => if (sb0 F j).1 < F j then (F j, j) else sb0 F j
section FU
variable {g g' : zG} {o o' : Bool} {M M' M1 M2 N N1 N2 : zM} {k C R c d m x y nA nB lv x1 x2 x3 : Int} {n b : Nat} {P : Int → Prop} {A B L L' : Int → Int}
theorem sb0_s (F : Int → Int) (j : Nat) : sb0 F (j + 1) = if (sb0 F j).1 < F j then (F j, (j : Int)) else sb0 F j := rfl
theorem sb0_in {F : Int → Int} {B : Int} (n : Nat) (hB : 0 ≤ B) (h : ∀ i : Nat, i < n → F i ≤ B) : 0 ≤ (sb0 F n).1 ∧ (sb0 F n).1 ≤ B := by
  induction n with
  | zero => exact ⟨Int.le_refl _, hB⟩
  | succ n ih =>
    have i := ih (fun i hi => h i (by omega))
    have j := h n (by omega)
    rw [sb0_s]
    split
    · exact ⟨by show 0 ≤ F n; omega, j⟩
    · exact i
theorem lbs_dn (hG : Geo C R) (H : Int → Int) (lv : Int) : lbs C R (dn C R H lv).1 (dn C R H lv).2 := by
  have a := dn_nn (H := H) (lv := lv) hG
  have b := geo_n hG
  refine ⟨by omega, fun c _ _ => ?_⟩
  rcases dn_lab (H := H) (lv := lv) hG c with e | e
  · exact Or.inl e
  · exact Or.inr ⟨e.1, e.2.1⟩
theorem Jt.jb (hJ : Jt k C R M1 M2) (hb : b < 3) (hk : M2 17 b = 1) (hlv : -2147483648 ≤ lv ∧ lv ≤ 2147483647) : zKv g (z1 o) mX9_joinBoth [zA g 1, zI b, zI lv] M1 (fun M' => lmJ M' 127 C R (dn C R (M2 10) lv) ∧ lmJ M' 131 C R (dn C R (rwk (M2 16) b) lv) ∧ fr1 M1 M') := by
  obtain ⟨hL, hR⟩ := hJ.lr
  have hn := geo_n hL.1
  have hk0 := hJ.1
  obtain ⟨j1, j2, j3, j4⟩ := hJ.2.2.2.2.2.1 b hb
  obtain ⟨j5, j6⟩ := j4 hk
  have hz := zsd_box hb
  refine zkv_of rfl (Nat.le_of_ble_eq_true rfl) (SX9_joinBoth_0 ⟨_, hJ.jl fr1.rf hlv, fun M3 hq => ⟨by omega, 136 + 4 * b, ?_, hz, _, c_joinLevel (P := fun c => lv ≤ rwk (M2 16) b c) (b := 131) (h1 := 136 + 4 * b + 1) (n1 := 96) (Or.inr rfl) ((hq.2.fr1 rfl).Ld hL) (zsd_1 hz) (by omega) (by decide) (by decide) (by omega) hlv (fun d a1 a2 => ?_), fun M4 h4 => ⟨?_, h4.1, ?_⟩⟩⟩)
  · rw [hq.2 135 (by decide)]; exact j1
  · have u := j6.1 d a1 (by omega)
    have v := j5.1 d a1 (by omega)
    rw [hq.2 _ (by simp; omega), v]
    exact ⟨Iff.rfl, by omega, by omega⟩
  · unfold lmJ
    rw [h4.2 127 (by decide) (by decide) (by decide) (by decide), h4.2 (127 + 3) (by decide) (by decide) (by decide) (by decide)]
    exact hq.1
  · refine (hq.2.fr1 rfl).trans (frl.fr1 (l := [131, 132, 133, 134]) (fun b hb => ?_) rfl)
    have hb' : b ≠ 131 ∧ b ≠ 132 ∧ b ≠ 133 ∧ b ≠ 134 := by simp at hb; omega
    exact h4.2 b hb'.1 hb'.2.1 hb'.2.2.1 hb'.2.2.2
theorem Jt.db (hJ : Jt k C R M1 M2) (hb : b < 3) (hk : M2 17 b = 1) (hf : fr2 M2 M) (hlv : -2147483648 ≤ lv ∧ lv ≤ 2147483647) : zKi g (z2 o) mX10_laysDunes [zA g 1, zA g 16, zI (198 * b), zI lv, zA g 14] M (fun r M' => r = (dn C R (rwk (M2 16) b) lv).2 ∧ (∀ c : Int, 0 ≤ c → c < C * R → M' 14 c = (dn C R (rwk (M2 16) b) lv).1 c) ∧ M' 13 = M 13 ∧ fr2 M2 M') := by
  obtain ⟨hL, hR⟩ := hJ.lr
  have hn := geo_n hL.1
  have hk0 := hJ.1
  obtain ⟨j1, j2, j3, j4⟩ := hJ.2.2.2.2.2.1 b hb
  obtain ⟨j5, j6⟩ := j4 hk
  have e16 : M 16 = M2 16 := hf.1 16 rfl
  refine zki_mono (c_laysDunes (P := fun c => lv ≤ rwk (M2 16) b c) (h1 := 16) (n1 := 594) (h4 := 14) (hf.Ld hR) rfl (by decide) (by decide) (Or.inr rfl) hlv (fun d a1 a2 => ?_)) (fun r M' h => ⟨h.1, h.2.1, h.2.2.1 13 (by decide) (by decide) (by decide), hf.trans h.2.2.fr4⟩)
  have u := j6.1 d a1 (by omega)
  rw [e16]
  show ((lv ≤ rwk (M2 16) b d ↔ lv ≤ rwk (M2 16) b d) ∧ -2147483648 ≤ rwk (M2 16) b d ∧ rwk (M2 16) b d ≤ 2147483647) ∧ _
  exact ⟨⟨Iff.rfl, by omega, by omega⟩, by omega, by omega⟩
theorem p_fates (hJ : Jt k C R M1 M2) (hk : k < 1000) (h1 : -2147483648 ≤ x1 ∧ x1 ≤ 2147483647) (h2 : -2147483648 ≤ x2 ∧ x2 ≤ 2147483647) (h3 : -2147483648 ≤ x3 ∧ x3 ≤ 2147483647) : zE g g' o o' mX9_fates mX10_fates [zI x1, zI x2, zI x3] k M1 M2 := by
  obtain ⟨hL, hR⟩ := hJ.lr
  have hn := geo_n hL.1
  obtain ⟨k1, k2, k3⟩ := hJ.kok
  by_cases hx : (0 ≤ x1 ∧ x1 < 3) ∧ M2 17 x1 = 1
  · have hx1 : (0 ≤ x1 ∧ x1 < 3) ∧ M1 148 x1 = 1 := ⟨hx.1, by rw [k3 x1 hx.1.1 hx.1.2]; exact hx.2⟩
    obtain ⟨b, hb⟩ := znn hx.1.1
    subst hb
    have hb3 : b < 3 := by omega
    by_cases hy : 1 ≤ x2
    · by_cases hw : 0 ≤ x3 ∧ x3 ≤ 3
      · have lA := lbs_dn hL.1 (M2 10) x2
        have lB := lbs_dn hL.1 (rwk (M2 16) b) x2
        obtain ⟨L, nL, eL⟩ : ∃ (L : Int → Int) (nL : Int), dn C R (M2 10) x2 = (L, nL) := ⟨_, _, rfl⟩
        obtain ⟨L', nL', eL'⟩ : ∃ (L : Int → Int) (nL : Int), dn C R (rwk (M2 16) b) x2 = (L, nL) := ⟨_, _, rfl⟩
        rw [eL] at lA
        rw [eL'] at lB
        have la := lA.1
        have lb := lB.1
        refine zE_of (A := if x3 = 0 then cnt (fun a => 1 < cnt (mt L L' (C * R).toNat a) nL'.toNat) nL.toNat else if x3 = 1 then cnt (fun a => 1 < cnt (mt L' L (C * R).toNat a) nL.toNat) nL'.toNat else if x3 = 2 then cnt (fun a => cnt (mt L' L (C * R).toNat a) nL.toNat = 0) nL'.toNat else cnt (fun a => cnt (mt L L' (C * R).toNat a) nL'.toNat = 0) nL.toNat) hJ hk (zki_of rfl (Nat.le_of_ble_eq_true rfl) (SX9_fates_0 ⟨h1, k1, fun h => absurd hx1 h, fun _ => ⟨h2, fun _ => ⟨_, hJ.jb hb3 hx.2 h2, fun M9 hq => ?_⟩, fun h => absurd hy h⟩⟩)) (zki_of rfl (Nat.le_of_ble_eq_true rfl) (SX10_fates_0 ⟨h1, k2, fun h => absurd hx h, fun _ => ⟨h2, fun h => by omega, fun _ => ⟨h3, fun _ => ⟨_, hJ.dnow fr2.rf h2, fun r M13 hq => ⟨_, hJ.db hb3 hx.2 hq.2.2.fr h2, fun r' M18 hq' => ?_⟩⟩, fun h => absurd hw h⟩⟩⟩))
        · obtain ⟨q1, q2, q3⟩ := hq
          rw [eL] at q1
          rw [eL'] at q2
          have hL9 := q3.Ld hL
          have m12 : ∀ c : Int, 0 ≤ c → c < C * R → M9 (127 + 3) c = L c ∧ M9 (131 + 3) c = L' c := fun c a b => ⟨q1.1 c a b, q2.1 c a b⟩
          have m21 : ∀ c : Int, 0 ≤ c → c < C * R → M9 (131 + 3) c = L' c ∧ M9 (127 + 3) c = L c := fun c a b => ⟨q2.1 c a b, q1.1 c a b⟩
          refine ⟨h3, fun h => ⟨_, c_meetingMany (Or.inl rfl) (Or.inr rfl) hL9 lA lB m12, fun r N h' => ⟨?_, q3.trans (h'.2.fr1 rfl)⟩⟩, fun h => ⟨_, c_meetingMany (Or.inr rfl) (Or.inl rfl) hL9 lB lA m21, fun r N h' => ⟨?_, q3.trans (h'.2.fr1 rfl)⟩⟩, fun h => ⟨_, c_meetingNone (Or.inr rfl) (Or.inl rfl) hL9 lB lA m21 q2.2, fun r N h' => ⟨?_, q3.trans (h'.2.fr1 rfl)⟩⟩, fun h => ⟨_, c_meetingNone (Or.inl rfl) (Or.inr rfl) hL9 lA lB m12 q1.2, fun r N h' => ⟨?_, q3.trans (h'.2.fr1 rfl)⟩⟩, fun h => by omega⟩
          · rw [h'.1, if_pos h]
          · rw [h'.1, if_neg (by omega), if_pos h]
          · rw [h'.1, if_neg (by omega), if_neg (by omega), if_pos h]
          · rw [h'.1, if_neg (by omega), if_neg (by omega), if_neg (by omega)]
        · obtain ⟨q1, q2, q3⟩ := hq
          obtain ⟨r1, r2, r3, r4⟩ := hq'
          rw [eL] at q1 q2
          rw [eL'] at r1 r2
          have hR18 := r4.Ld hR
          have hl : ∀ c : Int, 0 ≤ c → c < C * R → (M18 13 c = L c ∧ -1 ≤ L c ∧ L c ≤ 96) ∧ M18 14 c = L' c ∧ -1 ≤ L' c ∧ L' c ≤ 96 := fun c a b => by
            have u : L c = -1 ∨ (0 ≤ L c ∧ L c < nL) := lA.2 c a b
            have v : L' c = -1 ∨ (0 ≤ L' c ∧ L' c < nL') := lB.2 c a b
            exact ⟨⟨by rw [r3]; exact q2 c a b, by omega⟩, r2 c a b, by omega⟩
          have e1 : r = (nL.toNat : Int) := by have : r = nL := q1; omega
          have e2 : r' = (nL'.toNat : Int) := by have : r' = nL' := r1; omega
          refine ⟨h3, fun h => ?_, fun h => ⟨fun h' => ?_, fun h' => ?_⟩⟩
          · subst h
            exact c_fates73 (A := L) (B := L') hR18 hl (Or.inl ⟨rfl, rfl, rfl⟩) ⟨by omega, by omega⟩ (by decide) (Or.inl ⟨rfl, e1, e2⟩) ⟨rfl, r4⟩
          · refine c_fates73 (A := L') (B := L) (nA := nL'.toNat) (nB := nL.toNat) hR18 hl (Or.inr ⟨rfl, rfl, rfl⟩) ⟨by omega, by omega⟩ hw (Or.inr ⟨rfl, e1, e2⟩) ⟨?_, r4⟩
            by_cases z : x3 = 1
            · subst z; rfl
            · have z2' : x3 = 2 := by omega
              subst z2'; rfl
          · subst h'
            exact c_fates73 (A := L) (B := L') hR18 hl (Or.inl ⟨rfl, rfl, rfl⟩) ⟨by omega, by omega⟩ (by decide) (Or.inl ⟨rfl, e1, e2⟩) ⟨rfl, r4⟩
      · exact zE_of (A := -1) hJ hk (zki_of rfl (Nat.le_of_ble_eq_true rfl) (SX9_fates_0 ⟨h1, k1, fun h => absurd hx1 h, fun _ => ⟨h2, fun _ => ⟨_, hJ.jb hb3 hx.2 h2, fun M9 hq => ⟨h3, fun h => by omega, fun h => by omega, fun h => by omega, fun h => by omega, fun _ => ⟨rfl, hq.2.2⟩⟩⟩, fun h => absurd hy h⟩⟩)) (zki_of rfl (Nat.le_of_ble_eq_true rfl) (SX10_fates_0 ⟨h1, k2, fun h => absurd hx h, fun _ => ⟨h2, fun h => by omega, fun _ => ⟨h3, fun h => absurd h hw, fun _ => ⟨rfl, fr2.rf⟩⟩⟩⟩))
    · exact zE_of (A := -1) hJ hk (zki_of rfl (Nat.le_of_ble_eq_true rfl) (SX9_fates_0 ⟨h1, k1, fun h => absurd hx1 h, fun _ => ⟨h2, fun h => absurd h hy, fun _ => ⟨rfl, fr1.rf⟩⟩⟩)) (zki_of rfl (Nat.le_of_ble_eq_true rfl) (SX10_fates_0 ⟨h1, k2, fun h => absurd hx h, fun _ => ⟨h2, fun _ => ⟨rfl, fr2.rf⟩, fun h => by omega⟩⟩))
  · have hx1 : ¬ ((0 ≤ x1 ∧ x1 < 3) ∧ M1 148 x1 = 1) := fun h => hx ⟨h.1, by rw [← k3 x1 h.1.1 h.1.2]; exact h.2⟩
    exact zE_of (A := -1) hJ hk (zki_of rfl (Nat.le_of_ble_eq_true rfl) (SX9_fates_0 ⟨h1, k1, fun _ => ⟨rfl, fr1.rf⟩, fun h => absurd h hx1⟩)) (zki_of rfl (Nat.le_of_ble_eq_true rfl) (SX10_fates_0 ⟨h1, k2, fun _ => ⟨rfl, fr2.rf⟩, fun h => absurd h hx⟩))
theorem p_follows (hJ : Jt k C R M1 M2) (hk : k < 1000) (h1 : -2147483648 ≤ x1 ∧ x1 ≤ 2147483647) (h2 : -2147483648 ≤ x2 ∧ x2 ≤ 2147483647) (h3 : -2147483648 ≤ x3 ∧ x3 ≤ 2147483647) : zE g g' o o' mX9_follows mX10_follows [zI x1, zI x2, zI x3] k M1 M2 := by
  obtain ⟨hL, hR⟩ := hJ.lr
  have hn := geo_n hL.1
  obtain ⟨k1, k2, k3⟩ := hJ.kok
  by_cases hx : (0 ≤ x1 ∧ x1 < 3) ∧ M2 17 x1 = 1
  · have hx1 : (0 ≤ x1 ∧ x1 < 3) ∧ M1 148 x1 = 1 := ⟨hx.1, by rw [k3 x1 hx.1.1 hx.1.2]; exact hx.2⟩
    obtain ⟨b, hb⟩ := znn hx.1.1
    subst hb
    have hb3 : b < 3 := by omega
    by_cases hy : 1 ≤ x2
    · have lA := lbs_dn hL.1 (M2 10) x2
      have lB := lbs_dn hL.1 (rwk (M2 16) b) x2
      obtain ⟨L, nL, eL⟩ : ∃ (L : Int → Int) (nL : Int), dn C R (M2 10) x2 = (L, nL) := ⟨_, _, rfl⟩
      obtain ⟨L', nL', eL'⟩ : ∃ (L : Int → Int) (nL : Int), dn C R (rwk (M2 16) b) x2 = (L, nL) := ⟨_, _, rfl⟩
      rw [eL] at lA
      rw [eL'] at lB
      have la := lA.1
      have lb := lB.1
      by_cases hw : 0 ≤ x3 ∧ x3 < nL
      · obtain ⟨F, eF⟩ : ∃ F : Int → Int, F = fun t => cnt (fun c => L c = x3 ∧ L' c = t) (C * R).toNat := ⟨_, rfl⟩
        have Fi : ∀ t : Int, 0 ≤ F t ∧ F t ≤ 96 := fun t => by
          have := cnt_in (fun c => L c = x3 ∧ L' c = t) (C * R).toNat
          rw [eF]; show 0 ≤ cnt _ _ ∧ cnt _ _ ≤ 96; omega
        have si : ∀ j : Nat, 0 ≤ (sb0 F j).1 ∧ (sb0 F j).1 ≤ 96 := fun j => sb0_in j (by decide) (fun i _ => (Fi i).2)
        refine zE_of (A := (sb0 F nL'.toNat).2) hJ hk (zki_of rfl (Nat.le_of_ble_eq_true rfl) (SX9_follows_0 ⟨h1, k1, fun h => absurd hx1 h, fun _ => ⟨h2, fun _ => ⟨_, hJ.jb hb3 hx.2 h2, fun M9 hq => ?_⟩, fun h => absurd hy h⟩⟩)) (zki_of rfl (Nat.le_of_ble_eq_true rfl) (SX10_follows_0 ⟨h1, k2, fun h => absurd hx h, fun _ => ⟨h2, fun h => by omega, fun _ => ⟨_, hJ.dnow fr2.rf h2, fun r M13 hq => ?_⟩⟩⟩))
        · obtain ⟨q1, q2, q3⟩ := hq
          rw [eL] at q1
          rw [eL'] at q2
          have e5 : M9 127 5 = nL := q1.2
          refine ⟨h3, fun h => by omega, fun _ => ⟨by omega, fun _ => ⟨_, c_fill (n := 96) rfl (by decide) (by decide), fun M16 hf => ?_⟩, fun h => by omega⟩⟩
          have f16 : frl [149] M9 M16 := fun b hb => by rw [hf, zrw_other (by simpa using hb)]
          obtain ⟨n, hnn⟩ := znn (show 0 ≤ C * R by omega)
          have en : (C * R).toNat = n := by omega
          suffices hs : ∀ (j i : Nat) (N : zM), i + j = n → (∀ t : Int, 0 ≤ t → t < 96 → N 149 t = cnt (fun c => L c = x3 ∧ L' c = t) i) → frl [149] M9 N → zT g (z1 o) mX9_follows (zQi (z1 o) (fun r N => r = (sb0 F nL'.toNat).2 ∧ fr1 M1 N)) 49 [(0, zA g 1), (3, zI x3), (4, zI i)] [] N from hs n 0 M16 (by omega) (fun t a b => by rw [hf, zrw_row, if_pos ⟨a, by omega⟩]; rfl) f16
          intro j
          induction j with
          | zero =>
            intro i N hi hI hF
            have e14 : N 14 2 = C * R := by rw [hF 14 (by decide)]; exact (q3.Ld hL).2.2.2.1
            have e131 : N 131 5 = nL' := by rw [hF 131 (by decide)]; exact q2.2
            refine SX9_follows_49 ⟨by omega, by omega, fun _ => ?_, fun h => by omega⟩
            have hT : ∀ t : Int, 0 ≤ t → t < 96 → N 149 t = F t := fun t a b => by rw [hI t a b, eF, en, show i = n by omega]
            refine zup (fun i => zT g (z1 o) mX9_follows (zQi (z1 o) (fun r N => r = (sb0 F nL'.toNat).2 ∧ fr1 M1 N)) 119 [(0, zA g 1), (4, zI (sb0 F i).2), (5, zI (sb0 F i).1), (6, zI i)] [] N) nL'.toNat (SX9_follows_119 ⟨by omega, by omega, fun _ => ⟨rfl, q3.trans (hF.fr1 rfl)⟩, fun h => by omega⟩) (fun i hi ih => ?_)
            have f1 := Fi i
            have s1 := si i
            have t1 := hT i (by omega) (by omega)
            refine SX9_follows_119 ⟨by omega, by omega, fun h => by omega, fun _ => ⟨by omega, by omega, by omega, fun h => ?_, fun h => ?_⟩⟩
            · rw [sb0_s F i, if_neg (by omega)] at ih; exact ih
            · rw [sb0_s F i, if_pos (by omega), ← t1] at ih; exact ih
          | succ j ih =>
            intro i N hi hI hF
            have e14 : N 14 2 = C * R := by rw [hF 14 (by decide)]; exact (q3.Ld hL).2.2.2.1
            have ea : N 130 i = L i := by rw [hF 130 (by decide)]; exact q1.1 i (by omega) (by omega)
            have eb : N 134 i = L' i := by rw [hF 134 (by decide)]; exact q2.1 i (by omega) (by omega)
            have ra : L i = -1 ∨ (0 ≤ L i ∧ L i < nL) := lA.2 i (by omega) (by omega)
            have rb : L' i = -1 ∨ (0 ≤ L' i ∧ L' i < nL') := lB.2 i (by omega) (by omega)
            have no : (L i ≠ x3 ∨ L' i = -1) → zT g (z1 o) mX9_follows (zQi (z1 o) (fun r N => r = (sb0 F nL'.toNat).2 ∧ fr1 M1 N)) 49 [(0, zA g 1), (3, zI x3), (4, zI ((i : Int) + 1))] [] N := fun h => ih (i + 1) N (by omega) (fun t a b => by
              rw [cnt_skip (P := fun c => L c = x3 ∧ L' c = t) (fun q => by rcases h with h | h; exact h q.1; have := q.2; omega)]; exact hI t a b) hF
            refine SX9_follows_49 ⟨by omega, by omega, fun h => by omega, fun _ => ?_⟩
            rw [ea, eb]
            refine ⟨by omega, by omega, by omega, fun h => no (Or.inl h), fun h => ⟨by omega, fun h' => no (Or.inr h'), fun h' => ⟨by omega, ih (i + 1) _ (by omega) (fun t a b => ?_) (hF.trans (fun b hb => zu_other (by simpa using hb)))⟩⟩⟩
            rw [zu_row]
            by_cases z : t = L' i
            · rw [if_pos z, hI (L' i) (by omega) (by omega), z, cnt_take (P := fun c => L c = x3 ∧ L' c = L' i) ⟨h, rfl⟩]
            · rw [if_neg z, hI t a b, cnt_skip (P := fun c => L c = x3 ∧ L' c = t) (fun q => z q.2.symm)]
        · obtain ⟨q1, q2, q3⟩ := hq
          rw [eL] at q1 q2
          have q1 : r = nL := q1
          refine ⟨h3, by omega, fun _ => ⟨_, hJ.db hb3 hx.2 q3.fr h2, fun r' M19 hq' => ?_⟩, fun h => by omega⟩
          obtain ⟨r1, r2, r3, r4⟩ := hq'
          rw [eL'] at r1 r2
          have r1 : r' = nL' := r1
          have hl : ∀ c : Int, 0 ≤ c → c < C * R → (M19 13 c = L c ∧ -1 ≤ L c ∧ L c ≤ 96) ∧ M19 14 c = L' c ∧ -1 ≤ L' c ∧ L' c ≤ 96 := fun c a b => by
            have u : L c = -1 ∨ (0 ≤ L c ∧ L c < nL) := lA.2 c a b
            have v : L' c = -1 ∨ (0 ≤ L' c ∧ L' c < nL') := lB.2 c a b
            exact ⟨⟨by rw [r3]; exact q2 c a b, by omega⟩, r2 c a b, by omega⟩
          rw [r1]
          refine zup (fun i => zT g' (z2 o') mX10_follows (zQi (z2 o') (fun r N => r = (sb0 F nL'.toNat).2 ∧ fr2 M2 N)) 59 [(0, zA g' 1), (3, zI x3), (4, zI nL'), (5, zI (sb0 F i).2), (6, zI (sb0 F i).1), (7, zI i)] [] M19) nL'.toNat (SX10_follows_59 ⟨by omega, by omega, fun _ => ⟨rfl, r4⟩, fun h => by omega⟩) (fun i hi ih => ?_)
          have f1 := Fi i
          have s1 := si i
          refine SX10_follows_59 ⟨by omega, by omega, fun h => by omega, fun _ => ⟨_, c_inCommon (L := L) (L' := L') (r4.Ld hR) hl (by omega) (by omega), fun r M5 hc => ?_⟩⟩
          obtain ⟨hc1, rfl⟩ := hc
          have t1 : r = F i := by rw [hc1, eF]
          refine ⟨by omega, by omega, fun h => ?_, fun h => ?_⟩
          · rw [sb0_s F i, if_pos (by omega), ← t1] at ih; exact ih
          · rw [sb0_s F i, if_neg (by omega)] at ih; exact ih
      · refine zE_of (A := -1) hJ hk (zki_of rfl (Nat.le_of_ble_eq_true rfl) (SX9_follows_0 ⟨h1, k1, fun h => absurd hx1 h, fun _ => ⟨h2, fun _ => ⟨_, hJ.jb hb3 hx.2 h2, fun M9 hq => ?_⟩, fun h => absurd hy h⟩⟩)) (zki_of rfl (Nat.le_of_ble_eq_true rfl) (SX10_follows_0 ⟨h1, k2, fun h => absurd hx h, fun _ => ⟨h2, fun h => by omega, fun _ => ⟨_, hJ.dnow fr2.rf h2, fun r M13 hq => ?_⟩⟩⟩))
        · obtain ⟨q1, q2, q3⟩ := hq
          rw [eL] at q1
          have e5 : M9 127 5 = nL := q1.2
          exact ⟨h3, fun _ => ⟨rfl, q3⟩, fun _ => ⟨by omega, fun h => by omega, fun _ => ⟨rfl, q3⟩⟩⟩
        · obtain ⟨q1, q2, q3⟩ := hq
          rw [eL] at q1
          have q1 : r = nL := q1
          exact ⟨h3, by omega, fun h => by omega, fun _ => ⟨rfl, q3.fr⟩⟩
    · exact zE_of (A := -1) hJ hk (zki_of rfl (Nat.le_of_ble_eq_true rfl) (SX9_follows_0 ⟨h1, k1, fun h => absurd hx1 h, fun _ => ⟨h2, fun h => absurd h hy, fun _ => ⟨rfl, fr1.rf⟩⟩⟩)) (zki_of rfl (Nat.le_of_ble_eq_true rfl) (SX10_follows_0 ⟨h1, k2, fun h => absurd hx h, fun _ => ⟨h2, fun _ => ⟨rfl, fr2.rf⟩, fun h => by omega⟩⟩))
  · have hx1 : ¬ ((0 ≤ x1 ∧ x1 < 3) ∧ M1 148 x1 = 1) := fun h => hx ⟨h.1, by rw [← k3 x1 h.1.1 h.1.2]; exact h.2⟩
    exact zE_of (A := -1) hJ hk (zki_of rfl (Nat.le_of_ble_eq_true rfl) (SX9_follows_0 ⟨h1, k1, fun _ => ⟨rfl, fr1.rf⟩, fun h => absurd h hx1⟩)) (zki_of rfl (Nat.le_of_ble_eq_true rfl) (SX10_follows_0 ⟨h1, k2, fun _ => ⟨rfl, fr2.rf⟩, fun h => absurd h hx⟩))
end FU
