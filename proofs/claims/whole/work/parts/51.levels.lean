section LV
variable {g g' : zG} {o o' : Bool} {M M' M1 M2 N1 N2 : zM} {k C R c d m x y lv x1 x2 x3 : Int} {L H H' : Int → Int}
theorem zE_sp {A : Int → Prop} {d d' : zD} {as : List Value} (hJ : Jt k C R M1 M2) (hk : k < 1000) (hu : ∀ a b, A a → A b → a = b) (h1 : zKi g (z1 o) d (zA g 1 :: as) M1 (fun r N => A r ∧ fr1 M1 N)) (h2 : zKi g' (z2 o') d' (zA g' 1 :: as) M2 (fun r N => A r ∧ fr2 M2 N)) : zE g g' o o' d d' as k M1 M2 :=
  ⟨_, _, h1, h2, fun r N1 r' N2 a b => ⟨hu _ _ a.1 b.1, C, R, hJ.step hk a.2 b.2⟩⟩
theorem c_leastFrom (hL : zLand M C R) (hl : ∀ c : Int, 0 ≤ c → c < C * R → M 25 c = H c ∧ 0 ≤ H c ∧ H c ≤ 1000000) (hlv : 1 ≤ lv ∧ lv ≤ 2147483647) : zKi g (z1 o) mX9_leastFrom [zA g 1, zI lv] M (fun r M' => ((r = -1 ∧ ∀ c : Int, 0 ≤ c → c < C * R → H c < lv) ∨ ((lv ≤ r ∧ r ≤ 1000000) ∧ (∃ c : Int, 0 ≤ c ∧ c < C * R ∧ H c = r) ∧ ∀ c : Int, 0 ≤ c → c < C * R → lv ≤ H c → r ≤ H c)) ∧ M' = M) := by
  have hn := geo_n hL.1
  have e14 : M 14 2 = C * R := hL.2.2.2.1
  obtain ⟨n, hnn⟩ := znn (show 0 ≤ C * R by omega)
  refine zki_of rfl (Nat.le_of_ble_eq_true rfl) (SX9_leastFrom_0 ?_)
  suffices hs : ∀ (j i : Nat) (a : Int), i + j = n → ((a = -1 ∧ ∀ c : Int, 0 ≤ c → c < i → H c < lv) ∨ ((lv ≤ a ∧ a ≤ 1000000) ∧ (∃ c : Int, 0 ≤ c ∧ c < i ∧ H c = a) ∧ ∀ c : Int, 0 ≤ c → c < i → lv ≤ H c → a ≤ H c)) → zT g (z1 o) mX9_leastFrom (zQi (z1 o) (fun r M' => ((r = -1 ∧ ∀ c : Int, 0 ≤ c → c < C * R → H c < lv) ∨ ((lv ≤ r ∧ r ≤ 1000000) ∧ (∃ c : Int, 0 ≤ c ∧ c < C * R ∧ H c = r) ∧ ∀ c : Int, 0 ≤ c → c < C * R → lv ≤ H c → r ≤ H c)) ∧ M' = M)) 4 [(0, zA g 1), (1, zI lv), (2, zI a), (3, zI i)] [] M from hs n 0 (-1) (by omega) (Or.inl ⟨rfl, fun c a b => by omega⟩)
  intro j
  induction j with
  | zero =>
    intro i a hi ha
    refine SX9_leastFrom_4 ⟨by omega, by omega, fun _ => ⟨?_, rfl⟩, fun h => by omega⟩
    rw [show C * R = (i : Int) by omega]; exact ha
  | succ j ih =>
    intro i a hi ha
    have l := hl i (by omega) (by omega)
    have ar : -1 ≤ a ∧ a ≤ 1000000 := by rcases ha with ⟨e, -⟩ | ⟨e, -⟩ <;> omega
    have new : lv ≤ H i → (∀ c : Int, 0 ≤ c → c < i → lv ≤ H c → H i ≤ H c) → zT g (z1 o) mX9_leastFrom (zQi (z1 o) (fun r M' => ((r = -1 ∧ ∀ c : Int, 0 ≤ c → c < C * R → H c < lv) ∨ ((lv ≤ r ∧ r ≤ 1000000) ∧ (∃ c : Int, 0 ≤ c ∧ c < C * R ∧ H c = r) ∧ ∀ c : Int, 0 ≤ c → c < C * R → lv ≤ H c → r ≤ H c)) ∧ M' = M)) 4 [(0, zA g 1), (1, zI lv), (2, zI (M 25 i)), (3, zI ((i : Int) + 1))] [] M := fun p q => by
      rw [l.1]
      refine ih (i + 1) (H i) (by omega) (Or.inr ⟨⟨p, l.2.2⟩, ⟨i, by omega, by omega, rfl⟩, fun c u v w => ?_⟩)
      by_cases e : c = i
      · rw [e]; omega
      · exact q c u (by omega) w
    have old : (lv ≤ H i → a ≠ -1 ∧ a ≤ H i) → zT g (z1 o) mX9_leastFrom (zQi (z1 o) (fun r M' => ((r = -1 ∧ ∀ c : Int, 0 ≤ c → c < C * R → H c < lv) ∨ ((lv ≤ r ∧ r ≤ 1000000) ∧ (∃ c : Int, 0 ≤ c ∧ c < C * R ∧ H c = r) ∧ ∀ c : Int, 0 ≤ c → c < C * R → lv ≤ H c → r ≤ H c)) ∧ M' = M)) 4 [(0, zA g 1), (1, zI lv), (2, zI a), (3, zI ((i : Int) + 1))] [] M := fun p => by
      refine ih (i + 1) a (by omega) ?_
      rcases ha with ⟨e, h⟩ | ⟨e, ⟨c, u, v, w⟩, h⟩
      · refine Or.inl ⟨e, fun c u v => ?_⟩
        by_cases z : c = i
        · rw [z]
          by_cases hh : lv ≤ H i
          · exact absurd e (p hh).1
          · omega
        · exact h c u (by omega)
      · refine Or.inr ⟨e, ⟨c, u, by omega, w⟩, fun c u v w => ?_⟩
        by_cases z : c = i
        · rw [z] at w ⊢; exact (p w).2
        · exact h c u (by omega) w
    refine SX9_leastFrom_4 ⟨by omega, by omega, fun h => by omega, fun _ => ⟨by omega, by omega, by omega, fun h => old (fun h' => by omega), fun h => ⟨by omega, fun h' => new (by omega) ?_, fun h' => ⟨fun h'' => old (fun _ => ⟨h', by omega⟩), fun h'' => new (by omega) ?_⟩⟩⟩⟩
    · rcases ha with ⟨e, z⟩ | ⟨e, -⟩
      · intro c u v w; have := z c u v; omega
      · omega
    · rcases ha with ⟨e, z⟩ | ⟨e, -, z⟩
      · exact absurd e h'
      · intro c u v w; have := z c u v w; omega
theorem c_greatestBelow (hL : zLand M C R) (hl : ∀ c : Int, 0 ≤ c → c < C * R → M 25 c = H c ∧ 0 ≤ H c ∧ H c ≤ 1000000) (hlv : 1 ≤ lv ∧ lv ≤ 2147483647) : zKi g (z1 o) mX9_greatestBelow [zA g 1, zI lv] M (fun r M' => ((0 ≤ r ∧ r < lv) ∧ (r ≠ 0 → ∃ c : Int, 0 ≤ c ∧ c < C * R ∧ H c = r) ∧ ∀ c : Int, 0 ≤ c → c < C * R → H c < lv → H c ≤ r) ∧ M' = M) := by
  have hn := geo_n hL.1
  have e14 : M 14 2 = C * R := hL.2.2.2.1
  obtain ⟨n, hnn⟩ := znn (show 0 ≤ C * R by omega)
  refine zki_of rfl (Nat.le_of_ble_eq_true rfl) (SX9_greatestBelow_0 ?_)
  suffices hs : ∀ (j i : Nat) (a : Int), i + j = n → ((0 ≤ a ∧ a < lv) ∧ (a ≠ 0 → ∃ c : Int, 0 ≤ c ∧ c < C * R ∧ H c = a) ∧ ∀ c : Int, 0 ≤ c → c < i → H c < lv → H c ≤ a) → zT g (z1 o) mX9_greatestBelow (zQi (z1 o) (fun r M' => ((0 ≤ r ∧ r < lv) ∧ (r ≠ 0 → ∃ c : Int, 0 ≤ c ∧ c < C * R ∧ H c = r) ∧ ∀ c : Int, 0 ≤ c → c < C * R → H c < lv → H c ≤ r) ∧ M' = M)) 4 [(0, zA g 1), (1, zI lv), (2, zI a), (3, zI i)] [] M from hs n 0 0 (by omega) ⟨by omega, fun h => absurd rfl h, fun c a b => by omega⟩
  intro j
  induction j with
  | zero =>
    intro i a hi ha
    refine SX9_greatestBelow_4 ⟨by omega, by omega, fun _ => ⟨⟨ha.1, ha.2.1, fun c u v => ha.2.2 c u (by omega)⟩, rfl⟩, fun h => by omega⟩
  | succ j ih =>
    intro i a hi ha
    have l := hl i (by omega) (by omega)
    refine SX9_greatestBelow_4 ⟨by omega, by omega, fun h => by omega, fun _ => ⟨by omega, by omega, by omega, fun h => ih (i + 1) a (by omega) ⟨ha.1, ha.2.1, fun c u v w => ?_⟩, fun h => ⟨by omega, ?_⟩⟩⟩
    · by_cases z : c = i
      · rw [z] at w; omega
      · exact ha.2.2 c u (by omega) w
    · refine ih (i + 1) _ (by omega) ⟨by omega, fun hne => ?_, fun c u v w => ?_⟩
      · by_cases z : a < M 25 i
        · exact ⟨i, by omega, by omega, by omega⟩
        · rw [show max a (M 25 i) = a by omega] at hne ⊢; exact ha.2.1 hne
      · by_cases z : c = i
        · rw [z]; omega
        · have := ha.2.2 c u (by omega) w; omega
/-- the first level of so many dunes -/
def lvF (D : Int → Int) (mx n a : Int) : Prop := (a = -1 ∧ ∀ l : Int, 1 ≤ l → l ≤ mx → D l < n) ∨ ((1 ≤ a ∧ a ≤ mx) ∧ n ≤ D a ∧ ∀ l : Int, 1 ≤ l → l < a → D l < n)
theorem lvF_u {D : Int → Int} {mx n a b : Int} (h : lvF D mx n a) (h' : lvF D mx n b) : a = b := by
  rcases h with ⟨e, h⟩ | ⟨e, u, h⟩
  · rcases h' with ⟨e', h'⟩ | ⟨e', u', h'⟩
    · omega
    · have := h b e'.1 e'.2; omega
  · rcases h' with ⟨e', h'⟩ | ⟨e', u', h'⟩
    · have := h' a e.1 e.2; omega
    · by_cases q : a < b
      · have := h' a e.1 q; omega
      · by_cases q' : b < a
        · have := h b e'.1 q'; omega
        · omega
theorem p_parts (hJ : Jt k C R M1 M2) (hk : k < 1000) (h1 : -2147483648 ≤ x1 ∧ x1 ≤ 2147483647) : zE g g' o o' mX9_parts mX10_parts [zI x1] k M1 M2 := by
  obtain ⟨hL, hR⟩ := hJ.lr
  have hn := geo_n hL.1
  have hok : ∀ c : Int, 0 ≤ c → c < C * R → 0 ≤ M2 10 c ∧ M2 10 c ≤ 1000000 := fun c a b => hJ.ok.1 c a (by omega)
  have mxb := mxt_in (f := M2 10) (B := 1000000) (n := (C * R).toNat) (by decide) (fun i a b => (hok i a (by omega)).2)
  have dd : ∀ l : Int, 0 ≤ (dn C R (M2 10) l).2 ∧ (dn C R (M2 10) l).2 ≤ 96 := fun l => by have := dn_nn (H := M2 10) (lv := l) hL.1; omega
  by_cases hx : 1 ≤ x1
  · refine zE_sp (A := lvF (fun l => (dn C R (M2 10) l).2) (mxt (M2 10) (C * R).toNat) x1) hJ hk (fun a b => lvF_u) (zki_of rfl (Nat.le_of_ble_eq_true rfl) (SX9_parts_0 ⟨h1, fun _ => ?_, fun h => by omega⟩)) (zki_of rfl (Nat.le_of_ble_eq_true rfl) (SX10_parts_0 (C := C) (R := R) ⟨h1, fun _ => ⟨_, c_goesOn, fun N hq => ?_⟩, fun h => by omega⟩))
    · suffices hs : ∀ (j i : Nat) (l : Int) (N : zM), i + j = 97 → 1 ≤ l → l ≤ 1000001 → cnt (fun c => l ≤ M2 10 c) (C * R).toNat + i ≤ 96 → (∀ l' : Int, 1 ≤ l' → l' < l → (dn C R (M2 10) l').2 < x1) → fr1 M1 N → zT g (z1 o) mX9_parts (zQi (z1 o) (fun r N => lvF (fun l => (dn C R (M2 10) l).2) (mxt (M2 10) (C * R).toNat) x1 r ∧ fr1 M1 N)) 11 [(0, zA g 1), (1, zI x1), (2, zI l), (3, zI i)] [] N from hs 97 0 1 M1 rfl (by decide) (by decide) (by have := (cnt_in (fun c => (1 : Int) ≤ M2 10 c) (C * R).toNat).2; omega) (fun l' a b => by omega) fr1.rf
      intro j
      induction j with
      | zero => intro i l N hi ha hb hc; have := (cnt_in (fun c => l ≤ M2 10 c) (C * R).toNat).1; omega
      | succ j ih =>
        intro i l N hi ha hb hc hd hF
        have dl := dd l
        refine SX9_parts_11 ⟨by omega, fun h => by omega, fun _ => ⟨_, hJ.jl hF (by omega), fun M4 hq => ⟨by rw [hq.1.2]; omega, h1, fun h => ⟨_, c_leastFrom (H := M2 10) (lv := l) ((hF.trans (hq.2.fr1 rfl)).Ld hL) (fun c a b => ⟨by rw [(hF.trans (hq.2.fr1 rfl)).1 25 rfl]; exact hJ.eh c a (by omega), hok c a b⟩) (by omega), fun r M5 hr => ?_⟩, fun h => ⟨?_, hF.trans (hq.2.fr1 rfl)⟩⟩⟩⟩
        · rw [hq.1.2] at h
          obtain ⟨hr, rfl⟩ := hr
          refine ⟨by rcases hr with ⟨e, -⟩ | ⟨e, -⟩ <;> omega, fun hne => ?_, fun he => ⟨?_, hF.trans (hq.2.fr1 rfl)⟩⟩
          · rcases hr with ⟨e, -⟩ | ⟨e, ⟨c, u, v, w⟩, hm⟩
            · exact absurd e hne
            · refine ih (i + 1) (r + 1) M5 (by omega) (by omega) (by omega) ?_ (fun l' p q => ?_) (hF.trans (hq.2.fr1 rfl))
              · have := cnt_lt (P := fun c => l ≤ M2 10 c) (P' := fun c => r + 1 ≤ M2 10 c) (n := (C * R).toNat) (fun i _ _ z => by omega) (j := c) ⟨u, by omega⟩ (by omega) (by omega)
                omega
              · by_cases z : l' < l
                · exact hd l' p z
                · rw [dn_cg (H := M2 10) (H' := M2 10) (x := l) hL.1 (fun c u v => ⟨fun z => by omega, fun z => by have := hm c u v z; omega⟩)]; exact h
          · rcases hr with ⟨e, hm⟩ | ⟨e, -⟩
            · refine Or.inl ⟨rfl, fun l' p q => hd l' p ?_⟩
              have := (mxt_in (f := M2 10) (B := l - 1) (n := (C * R).toNat) (by omega) (fun i a b => by have := hm i a (by omega); omega)).2
              omega
            · omega
        · rw [hq.1.2] at h
          refine Or.inr ⟨⟨ha, ?_⟩, by show x1 ≤ (dn C R (M2 10) l).2; omega, hd⟩
          obtain ⟨c, hc, ec⟩ := dn_ex (H := M2 10) (lv := l) (d := 0) hL.1 (by decide) (by omega)
          have := le_mxt (f := M2 10) (n := (C * R).toNat) hc.1 (by omega)
          rcases dn_lab (H := M2 10) (lv := l) hL.1 c with z | z <;> omega
    · obtain ⟨q1, q2, q3, q4, q5, q6⟩ := hq
      obtain ⟨g1, g2, g3, g4, g5⟩ := hJ.go q1 q5
      have fN : fr2 M2 N := go_fr q5 q6
      refine ⟨g1, g2, ?_⟩
      rw [mxt_congr (f := N 11) (h := M2 10) (fun i a b => g4 i a (by omega))]
      suffices hs : ∀ (j : Nat) (l : Int) (N : zM), l + j = mxt (M2 10) (C * R).toNat + 1 → 1 ≤ l → (∀ l' : Int, 1 ≤ l' → l' < l → (dn C R (M2 10) l').2 < x1) → fr2 M2 N → zT g' (z2 o') mX10_parts (zQi (z2 o') (fun r N => lvF (fun l => (dn C R (M2 10) l).2) (mxt (M2 10) (C * R).toNat) x1 r ∧ fr2 M2 N)) 18 [(0, zA g' 1), (1, zI x1), (2, zI (mxt (M2 10) (C * R).toNat)), (3, zI l)] [] N from hs (mxt (M2 10) (C * R).toNat).toNat 1 N (by omega) (by decide) (fun l' a b => by omega) fN
      intro j
      induction j with
      | zero =>
        intro l N hl ha hd hF
        exact SX10_parts_18 ⟨by omega, by omega, fun _ => ⟨Or.inl ⟨rfl, fun l' p q => hd l' p (by omega)⟩, hF⟩, fun h => by omega⟩
      | succ j ih =>
        intro l N hl ha hd hF
        have dl := dd l
        refine SX10_parts_18 ⟨by omega, by omega, fun h => by omega, fun _ => ⟨_, hJ.dnow hF (by omega), fun r M5 hq => ⟨by rw [hq.1]; omega, h1, fun h => ih (l + 1) M5 (by omega) (by omega) (fun l' p q => ?_) (hF.trans hq.2.2.fr), fun h => ⟨Or.inr ⟨⟨ha, by omega⟩, by rw [hq.1] at h; show x1 ≤ (dn C R (M2 10) l).2; omega, hd⟩, hF.trans hq.2.2.fr⟩⟩⟩⟩
        by_cases z : l' < l
        · exact hd l' p z
        · rw [show l' = l by omega, ← hq.1]; exact h
  · exact zE_of (A := -1) hJ hk (zki_of rfl (Nat.le_of_ble_eq_true rfl) (SX9_parts_0 ⟨h1, fun h => by omega, fun _ => ⟨rfl, fr1.rf⟩⟩)) (zki_of rfl (Nat.le_of_ble_eq_true rfl) (SX10_parts_0 (C := C) (R := R) ⟨h1, fun h => by omega, fun _ => ⟨rfl, fr2.rf⟩⟩))
/-- the highest level at which two are one -/
def lvS (E : Int → Prop) (m a : Int) : Prop := (a = 0 ∧ ∀ l : Int, 0 < l → l ≤ m → ¬ E l) ∨ ((0 < a ∧ a ≤ m) ∧ E a ∧ ∀ l : Int, a < l → l ≤ m → ¬ E l)
theorem lvS_u {E : Int → Prop} {m a b : Int} (h : lvS E m a) (h' : lvS E m b) : a = b := by
  rcases h with ⟨e, h⟩ | ⟨e, u, h⟩
  · rcases h' with ⟨e', h'⟩ | ⟨e', u', h'⟩
    · omega
    · exact absurd u' (h b e'.1 e'.2)
  · rcases h' with ⟨e', h'⟩ | ⟨e', u', h'⟩
    · exact absurd u (h' a e.1 e.2)
    · by_cases q : a < b
      · exact absurd u' (h b q e'.2)
      · by_cases q' : b < a
        · exact absurd u (h' a q' e.2)
        · omega
theorem p_saddle (hJ : Jt k C R M1 M2) (hk : k < 1000) (h1 : -2147483648 ≤ x1 ∧ x1 ≤ 2147483647) (h2 : -2147483648 ≤ x2 ∧ x2 ≤ 2147483647) : zE g g' o o' mX9_saddle mX10_saddle [zI x1, zI x2] k M1 M2 := by
  obtain ⟨hL, hR⟩ := hJ.lr
  have hn := geo_n hL.1
  have hok : ∀ c : Int, 0 ≤ c → c < C * R → 0 ≤ M2 10 c ∧ M2 10 c ≤ 1000000 := fun c a b => hJ.ok.1 c a (by omega)
  have hlab : ∀ l c : Int, 0 ≤ c → c < C * R → -1 ≤ (dn C R (M2 10) l).1 c ∧ (dn C R (M2 10) l).1 c ≤ 96 := fun l c a b => by
    have := dn_nn (H := M2 10) (lv := l) hL.1
    rcases dn_lab (H := M2 10) (lv := l) hL.1 c with e | e <;> omega
  by_cases hx : 0 ≤ x1 ∧ x1 < C * R
  · by_cases hy : 0 ≤ x2 ∧ x2 < C * R
    · have o1 := hok x1 hx.1 hx.2
      have o2 := hok x2 hy.1 hy.2
      have e1 : M1 25 x1 = M2 10 x1 := hJ.eh x1 hx.1 (by omega)
      have e2 : M1 25 x2 = M2 10 x2 := hJ.eh x2 hy.1 (by omega)
      refine zE_sp (A := lvS (fun l => (dn C R (M2 10) l).1 x1 = (dn C R (M2 10) l).1 x2) (min (M2 10 x1) (M2 10 x2))) hJ hk (fun a b => lvS_u) (zki_of rfl (Nat.le_of_ble_eq_true rfl) (SX9_saddle_0 (C := C) (R := R) ⟨h1, hL, fun h => absurd hx h, fun _ => ⟨h2, fun _ => ⟨by omega, by omega, by omega, by omega, ?_⟩, fun h => absurd hy h⟩⟩)) (zki_of rfl (Nat.le_of_ble_eq_true rfl) (SX10_saddle_0 (C := C) (R := R) ⟨hR, h1, fun h => absurd hx h, fun _ => ⟨h2, fun _ => ⟨by omega, by omega, by omega, by omega, ?_⟩, fun h => absurd hy h⟩⟩))
      · rw [e1, e2]
        suffices hs : ∀ (j i : Nat) (l : Int) (N : zM), i + j = 98 → 0 ≤ l → l ≤ min (M2 10 x1) (M2 10 x2) → (l = 0 ∨ cnt (fun c => M2 10 c < l) (C * R).toNat + i ≤ 96) → (∀ l' : Int, l < l' → l' ≤ min (M2 10 x1) (M2 10 x2) → ¬ (dn C R (M2 10) l').1 x1 = (dn C R (M2 10) l').1 x2) → fr1 M1 N → zT g (z1 o) mX9_saddle (zQi (z1 o) (fun r N => lvS (fun l => (dn C R (M2 10) l).1 x1 = (dn C R (M2 10) l).1 x2) (min (M2 10 x1) (M2 10 x2)) r ∧ fr1 M1 N)) 49 [(0, zA g 1), (1, zI x1), (2, zI x2), (3, zI l), (4, zI i)] [] N from hs 98 0 _ M1 rfl (by omega) (Int.le_refl _) (Or.inr (by have := (cnt_in (fun c => M2 10 c < min (M2 10 x1) (M2 10 x2)) (C * R).toNat).2; omega)) (fun l' a b => by omega) fr1.rf
        intro j
        induction j with
        | zero =>
          intro i l N hi ha hb hc hd hF
          have := (cnt_in (fun c => M2 10 c < l) (C * R).toNat).1
          have hl0 : l = 0 := by omega
          exact SX9_saddle_49 ⟨by omega, fun _ => ⟨Or.inl ⟨rfl, fun l' p q => hd l' (by omega) q⟩, hF⟩, fun h => by omega⟩
        | succ j ih =>
          intro i l N hi ha hb hc hd hF
          have c0 := (cnt_in (fun c => M2 10 c < l) (C * R).toNat).1
          refine SX9_saddle_49 ⟨by omega, fun h => ?_, fun _ => ⟨by omega, fun h => ⟨Or.inl ⟨rfl, fun l' p q => hd l' (by omega) q⟩, hF⟩, fun hpos => ⟨_, hJ.jl hF (by omega), fun M5 hq => ?_⟩⟩⟩
          · have hl0 : l = 0 := by omega
            exact ⟨Or.inl ⟨rfl, fun l' p q => hd l' (by omega) q⟩, hF⟩
          · have f5 := hF.trans (hq.2.fr1 rfl)
            have q1 : M5 130 x1 = (dn C R (M2 10) l).1 x1 := hq.1.1 x1 hx.1 hx.2
            have q2 : M5 130 x2 = (dn C R (M2 10) l).1 x2 := hq.1.1 x2 hy.1 hy.2
            have b1 := hlab l x1 hx.1 hx.2
            have b2 := hlab l x2 hy.1 hy.2
            refine ⟨by omega, by omega, by omega, by omega, fun hne => ⟨_, c_greatestBelow (H := M2 10) (lv := l) (f5.Ld hL) (fun c a b => ⟨by rw [f5.1 25 rfl]; exact hJ.eh c a (by omega), hok c a b⟩) (by omega), fun r M6 hr => ?_⟩, fun he => ⟨Or.inr ⟨by omega, by show (dn C R (M2 10) l).1 x1 = (dn C R (M2 10) l).1 x2; rw [← q1, ← q2]; exact he, hd⟩, f5⟩⟩
            obtain ⟨⟨r1, r2, r3⟩, rfl⟩ := hr
            refine ih (i + 1) r M6 (by omega) r1.1 (by omega) ?_ (fun l' p q => ?_) f5
            · by_cases z : r = 0
              · exact Or.inl z
              · obtain ⟨c, u, v, w⟩ := r2 z
                clear r2
                have := cnt_lt (P := fun c => M2 10 c < l) (P' := fun c => M2 10 c < r) (n := (C * R).toNat) (fun i _ _ z => by omega) (j := c) ⟨u, by omega⟩ (by omega) (by omega)
                exact Or.inr (by omega)
            · by_cases z : l < l'
              · exact hd l' z q
              · rw [dn_cg (H := M2 10) (H' := M2 10) (x := l) hL.1 (fun c u v => ⟨fun z => by
                  by_cases y : M2 10 c < l
                  · have := r3 c u v y; omega
                  · omega, fun z => by omega⟩), ← q1, ← q2]
                exact hne
      · suffices hs : ∀ (j : Nat) (N : zM), (j : Int) ≤ min (M2 10 x1) (M2 10 x2) → (∀ l' : Int, (j : Int) < l' → l' ≤ min (M2 10 x1) (M2 10 x2) → ¬ (dn C R (M2 10) l').1 x1 = (dn C R (M2 10) l').1 x2) → fr2 M2 N → zT g' (z2 o') mX10_saddle (zQi (z2 o') (fun r N => lvS (fun l => (dn C R (M2 10) l).1 x1 = (dn C R (M2 10) l).1 x2) (min (M2 10 x1) (M2 10 x2)) r ∧ fr2 M2 N)) 34 [(0, zA g' 1), (1, zI x1), (2, zI x2), (3, zI j)] [] N by
          have := hs (min (M2 10 x1) (M2 10 x2)).toNat M2 (by omega) (fun l' a b => by omega) fr2.rf
          rw [show (((min (M2 10 x1) (M2 10 x2)).toNat : Nat) : Int) = min (M2 10 x1) (M2 10 x2) by omega] at this
          exact this
        intro j
        induction j with
        | zero =>
          intro N ha hd hF
          exact SX10_saddle_34 ⟨by omega, fun _ => ⟨Or.inl ⟨rfl, fun l' p q => hd l' (by omega) q⟩, hF⟩, fun h => by omega⟩
        | succ j ih =>
          intro N ha hd hF
          have b1 := hlab ((j + 1 : Nat) : Int) x1 hx.1 hx.2
          have b2 := hlab ((j + 1 : Nat) : Int) x2 hy.1 hy.2
          have n1 : (dn C R (M2 10) ((j + 1 : Nat) : Int)).1 x1 ≠ -1 := dn_in hL.1 hx.1 hx.2 (by omega)
          have key : zKi g' (z2 o') mX10_areOne [zA g' 1, zI ((j + 1 : Nat) : Int), zI x1, zI x2] N (fun r N' => r = zb ((dn C R (M2 10) ((j + 1 : Nat) : Int)).1 x1 = (dn C R (M2 10) ((j + 1 : Nat) : Int)).1 x2) ∧ fr2 M2 N') := by
            refine zki_of rfl (Nat.le_of_ble_eq_true rfl) (SX10_areOne_0 ⟨_, hJ.dnow hF (by omega), fun r M3 hq => ?_⟩)
            have q1 := hq.2.1 x1 hx.1 hx.2
            have q2 := hq.2.1 x2 hy.1 hy.2
            have f3 := hF.trans hq.2.2.fr
            refine ⟨by omega, by omega, fun h => absurd (q1.symm.trans h) n1, fun _ => ⟨by omega, by omega, fun h => ⟨(zb_f (fun z => h (by rw [q1, q2]; exact z))).symm, f3⟩, fun h => ⟨(zb_t (by rw [← q1, ← q2]; exact h)).symm, f3⟩⟩⟩
          refine SX10_saddle_34 ⟨by omega, fun h => by omega, fun _ => ⟨_, key, fun r M4 hr => ?_⟩⟩
          have h01 := zb01 ((dn C R (M2 10) ((j + 1 : Nat) : Int)).1 x1 = (dn C R (M2 10) ((j + 1 : Nat) : Int)).1 x2)
          refine ⟨by rw [hr.1]; omega, fun h => ⟨Or.inr ⟨by omega, ?_, hd⟩, hr.2⟩, fun h => ?_⟩
          · rcases h01 with z | z
            · exact absurd (hr.1.trans z) h
            · exact zb_1.mp z
          · have := ih M4 (by omega) (fun l' p q => by
              by_cases z : l' = ((j + 1 : Nat) : Int)
              · rw [z]; exact zb_0.mp (by rw [← hr.1]; exact h)
              · exact hd l' (by omega) q) hr.2
            rw [show ((j + 1 : Nat) : Int) + -1 = (j : Int) by omega]
            exact this
    · exact zE_of (A := -1) hJ hk (zki_of rfl (Nat.le_of_ble_eq_true rfl) (SX9_saddle_0 (C := C) (R := R) ⟨h1, hL, fun h => absurd hx h, fun _ => ⟨h2, fun h => absurd h hy, fun _ => ⟨rfl, fr1.rf⟩⟩⟩)) (zki_of rfl (Nat.le_of_ble_eq_true rfl) (SX10_saddle_0 (C := C) (R := R) ⟨hR, h1, fun h => absurd hx h, fun _ => ⟨h2, fun h => absurd h hy, fun _ => ⟨rfl, fr2.rf⟩⟩⟩))
  · exact zE_of (A := -1) hJ hk (zki_of rfl (Nat.le_of_ble_eq_true rfl) (SX9_saddle_0 (C := C) (R := R) ⟨h1, hL, fun _ => ⟨rfl, fr1.rf⟩, fun h => absurd h hx⟩)) (zki_of rfl (Nat.le_of_ble_eq_true rfl) (SX10_saddle_0 (C := C) (R := R) ⟨hR, h1, fun _ => ⟨rfl, fr2.rf⟩, fun h => absurd h hx⟩))
end LV
