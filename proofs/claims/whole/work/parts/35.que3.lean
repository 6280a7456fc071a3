section QD
variable {g g' : zG} {o o' : Bool} {M1 M2 N1 N2 M : zM} {k C R c x y w A x1 x2 x3 x4 x5 : Int} {s : Nat} {H H' G G' f f' : Int → Int}
theorem smt_tail {n m : Nat} (h : n ≤ m) (hz : ∀ i : Int, n ≤ i → i < m → f i = 0) : smt f m = smt f n := by
  induction m with
  | zero => rw [show n = 0 by omega]
  | succ m ih =>
    by_cases e : n = m + 1
    · rw [e]
    · show smt f m + f m = _
      rw [ih (by omega) (fun i p q => hz i p (by omega)), hz m (by omega) (by omega)]; omega
theorem mxt_nn (f : Int → Int) (n : Nat) : 0 ≤ mxt f n := by
  induction n with
  | zero => exact Int.le_refl 0
  | succ n ih => show 0 ≤ max (mxt f n) (f n); omega
theorem mxt_tail {n m : Nat} (h : n ≤ m) (hz : ∀ i : Int, n ≤ i → i < m → f i = 0) : mxt f m = mxt f n := by
  induction m with
  | zero => rw [show n = 0 by omega]
  | succ m ih =>
    by_cases e : n = m + 1
    · rw [e]
    · show max (mxt f m) (f m) = _
      have := mxt_nn f n
      rw [ih (by omega) (fun i p q => hz i p (by omega)), hz m (by omega) (by omega)]; omega
theorem le_mxt {n : Nat} {i : Int} (h0 : 0 ≤ i) (h1 : i < n) : f i ≤ mxt f n := by
  induction n with
  | zero => omega
  | succ n ih =>
    show f i ≤ max (mxt f n) (f n)
    by_cases e : i = n
    · rw [e]; omega
    · have := ih (by omega); omega
theorem stw_spec (n : Nat) : (∀ i : Nat, i < n → H c - H (alg C R c i 1) ≤ stw C R H c n) ∧ 0 ≤ stw C R H c n ∧ (stw C R H c n = 0 ∨ ∃ i : Nat, i < n ∧ stw C R H c n = H c - H (alg C R c i 1)) := by
  induction n with
  | zero => exact ⟨fun i hi => by omega, Int.le_refl 0, Or.inl rfl⟩
  | succ n ih =>
    have e : stw C R H c (n + 1) = max (stw C R H c n) (H c - H (alg C R c n 1)) := rfl
    refine ⟨fun i hi => ?_, by omega, ?_⟩
    · by_cases h : i = n
      · rw [h]; omega
      · have := ih.1 i (by omega); omega
    · by_cases h : stw C R H c n < H c - H (alg C R c n 1)
      · exact Or.inr ⟨n, by omega, by omega⟩
      · rcases ih.2.2 with h' | ⟨i, hi, h'⟩
        · exact Or.inl (by omega)
        · exact Or.inr ⟨i, by omega, by omega⟩
theorem stw_pmn : stw C R H c 4 = max 0 (H c - H (alg C R c (pmn C R H c 3) 1)) := by
  have p := pmn_in (C := C) (R := R) (H := H) (c := c) 3
  obtain ⟨q, hq⟩ := znn p.1
  have s1 := pmn_spec (C := C) (R := R) (H := H) (c := c) 3
  obtain ⟨a, b, d⟩ := stw_spec (C := C) (R := R) (H := H) (c := c) 4
  rw [hq] at s1 p ⊢
  have a1 := a q (by omega)
  rcases d with d | ⟨i, hi, d⟩
  · omega
  · have := s1.1 i (by omega); omega
theorem greatest_eq (hG : Geo C R) : mxt (fun c => stw C R H c 4) (C * R).toNat = mxt (fun c => max (adf (H c) (H (alg C R c 0 1))) (adf (H c) (H (alg C R c 1 1)))) (C * R).toNat := by
  have hn := geo_n hG
  have key : ∀ c : Int, 0 ≤ c → c < C * R → ∀ v : Int, v ≤ max (adf (H c) (H (alg C R c 0 1))) (adf (H c) (H (alg C R c 1 1))) → v ≤ mxt (fun c => max (adf (H c) (H (alg C R c 0 1))) (adf (H c) (H (alg C R c 1 1)))) (C * R).toNat := fun c h0 h1 v hv => by
    have := le_mxt (f := fun c => max (adf (H c) (H (alg C R c 0 1))) (adf (H c) (H (alg C R c 1 1)))) (n := (C * R).toNat) h0 (by omega)
    exact Int.le_trans hv this
  have key2 : ∀ c : Int, 0 ≤ c → c < C * R → stw C R H c 4 ≤ mxt (fun c => stw C R H c 4) (C * R).toNat := fun c h0 h1 => le_mxt (f := fun c => stw C R H c 4) h0 (by omega)
  apply Int.le_antisymm
  · refine (mxt_in (mxt_nn _ _) (fun c h0 h1 => ?_)).2
    rcases (stw_spec (C := C) (R := R) (H := H) (c := c) 4).2.2 with d | ⟨i, hi, d⟩
    · have := mxt_nn (fun c => max (adf (H c) (H (alg C R c 0 1))) (adf (H c) (H (alg C R c 1 1)))) (C * R).toNat
      show stw C R H c 4 ≤ _
      omega
    · have hc : 0 ≤ c ∧ c < C * R := by omega
      have a := alg_in (w := (i : Int)) (k := 1) hG hc
      have hb := alg_back (w := (i : Int)) hG hc (by omega)
      show stw C R H c 4 ≤ _
      rw [d]
      have hi' : i = 0 ∨ i = 1 ∨ i = 2 ∨ i = 3 := by omega
      rcases hi' with rfl | rfl | rfl | rfl
      · exact key c hc.1 hc.2 _ (by show H c - H (alg C R c 0 1) ≤ _; unfold adf; omega)
      · exact key c hc.1 hc.2 _ (by show H c - H (alg C R c 1 1) ≤ _; unfold adf; omega)
      · refine key (alg C R c 2 1) a.1 a.2 _ ?_
        have hb : alg C R (alg C R c 2 1) 0 1 = c := hb
        rw [hb]
        show H c - H (alg C R c 2 1) ≤ _
        unfold adf; omega
      · refine key (alg C R c 3 1) a.1 a.2 _ ?_
        have hb : alg C R (alg C R c 3 1) 1 1 = c := hb
        rw [hb]
        show H c - H (alg C R c 3 1) ≤ _
        unfold adf; omega
  · refine (mxt_in (mxt_nn _ _) (fun c h0 h1 => ?_)).2
    have hc : 0 ≤ c ∧ c < C * R := by omega
    have one : ∀ i : Nat, i < 2 → adf (H c) (H (alg C R c i 1)) ≤ mxt (fun c => stw C R H c 4) (C * R).toNat := fun i hi => by
      have a := alg_in (w := (i : Int)) (k := 1) hG hc
      have hb := alg_back (w := (i : Int)) hG hc (by omega)
      have k1 := key2 c hc.1 hc.2
      have k2 := key2 _ a.1 a.2
      have s1 := (stw_spec (C := C) (R := R) (H := H) (c := c) 4).1 i (by omega)
      have s2 := (stw_spec (C := C) (R := R) (H := H) (c := alg C R c i 1) 4).1 (i + 2) (by omega)
      have e : opp (i : Int) = ((i + 2 : Nat) : Int) := by unfold opp; split <;> omega
      rw [e] at hb
      rw [hb] at s2
      unfold adf; split <;> omega
    have o0 := one 0 (by decide)
    have o1 := one 1 (by decide)
    show max (adf (H c) (H (alg C R c ((0 : Nat) : Int) 1))) (adf (H c) (H (alg C R c ((1 : Nat) : Int) 1))) ≤ _
    omega
theorem crest_eq (hG : Geo C R) (hc : 0 ≤ c ∧ c < C * R) (h : eq96 H H') : crest C R H c w ↔ crest C R H' c w := by
  have hn := geo_n hG
  have a1 := alg_in (w := w) (k := 1) hG hc
  have a2 := alg_in (w := opp w) (k := 1) hG hc
  unfold crest
  rw [h c hc.1 (by omega), h _ a1.1 (by omega), h _ a2.1 (by omega)]
theorem p_all (hJ : Jt k C R M1 M2) (hk : k < 1000) (h1 : -2147483648 ≤ x1 ∧ x1 ≤ 2147483647) : zE g g' o o' mX9_all mX10_all [zI x1] k M1 M2 := by
  obtain ⟨hL, hR⟩ := hJ.lr
  have hn := geo_n hL.1
  have hz := hJ.ok.2.2.2.2.2.2.2.2
  have eh := hJ.eh
  have e14 : M1 14 2 = C * R := hL.2.2.2.1
  have r1 : M1 27 1 = M2 10 193 := hJ.er 1 (by decide) (by decide)
  have al : ∀ c : Int, 0 ≤ c → c < (C * R).toNat → ∀ w : Int, 0 ≤ alg C R c w 1 ∧ alg C R c w 1 < 96 := fun c p q w => by have := alg_in (w := w) (k := 1) hL.1 (c := c) (by omega); omega
  refine zE_of (A := if x1 = 0 then smt (M2 10) (C * R).toNat else if x1 = 1 then mxt (M2 10) (C * R).toNat else if x1 = 2 then cnt (fun i => M2 10 i = 0) (C * R).toNat else if x1 = 3 then cnt (fun c => shd C R (M2 10) (M2 10 193) c (wnr M2 (M2 10 197))) (C * R).toNat else if x1 = 4 then mxt (fun c => max (adf (M2 10 c) (M2 10 (alg C R c 0 1))) (adf (M2 10 c) (M2 10 (alg C R c 1 1)))) (C * R).toNat else if x1 = 5 then smt (fun c => adf (M2 10 c) (M2 10 (alg C R c 0 1)) + adf (M2 10 c) (M2 10 (alg C R c 1 1))) (C * R).toNat else if x1 = 6 then cnt (fun c => yld C R (M2 10) (fun i => M2 10 (96 + i)) (M2 10 193) c (wnr M2 (M2 10 197))) (C * R).toNat else -1) hJ hk (zki_of rfl (Nat.le_of_ble_eq_true rfl) (SX9_all_0 (C := C) (R := R) ⟨h1, fun h => ⟨hJ.sok, ?_, fr1.rf⟩, fun h => ⟨hJ.sok, ?_, fr1.rf⟩, fun h => ⟨hL, hJ.sok, e14, ?_, fr1.rf⟩, fun h => ⟨hL, hJ.sok, ?_, fr1.rf⟩, fun h => ⟨hL, hJ.sok, ?_, fr1.rf⟩, fun h => ⟨hL, hJ.sok, ?_, fr1.rf⟩, fun h => ⟨hL, hJ.sok, ?_, fr1.rf⟩, fun h => ⟨?_, fr1.rf⟩⟩)) (zki_of rfl (Nat.le_of_ble_eq_true rfl) (SX10_all_0 (C := C) (R := R) ⟨_, c_goesOn, fun N hq => ?_⟩))
  · subst h
    rw [if_pos rfl, smt_congr (f := M1 25) (h := M2 10) (fun i p q => eh i p (by omega)), smt_tail (n := (C * R).toNat) (by omega) (fun i p q => hz i (by omega) (by omega))]
  · subst h
    rw [if_neg (by decide), if_pos rfl, mxt_congr (f := M1 25) (h := M2 10) (fun i p q => eh i p (by omega)), mxt_tail (n := (C * R).toNat) (by omega) (fun i p q => hz i (by omega) (by omega))]
  · subst h
    rw [if_neg (by decide), if_neg (by decide), if_pos rfl]
    exact cnt_congr (fun i p q => by rw [eh i p (by omega)])
  · subst h
    rw [if_neg (by decide), if_neg (by decide), if_neg (by decide), if_pos rfl, ← hJ.wq, hJ.es.2, r1]
    exact cnt_congr (fun i p q => shd_eq hL.1 (by omega) eh)
  · subst h
    rw [if_neg (by decide), if_neg (by decide), if_neg (by decide), if_neg (by decide), if_pos rfl, ← greatest_eq hL.1]
    exact mxt_congr (fun i p q => stw_eq hL.1 (by omega) eh 4)
  · subst h
    rw [if_neg (by decide), if_neg (by decide), if_neg (by decide), if_neg (by decide), if_neg (by decide), if_pos rfl]
    exact smt_congr (fun i p q => by rw [eh i p (by omega), eh _ (al i p q 0).1 (al i p q 0).2, eh _ (al i p q 1).1 (al i p q 1).2])
  · subst h
    rw [if_neg (by decide), if_neg (by decide), if_neg (by decide), if_neg (by decide), if_neg (by decide), if_neg (by decide), if_pos rfl, ← hJ.wq, hJ.es.2, r1]
    exact cnt_congr (fun i p q => yld_eq hL.1 (by omega) eh hJ.eg)
  · repeat rw [if_neg (by omega)]
  obtain ⟨q1, q2, q3, q4, q5, q6⟩ := hq
  obtain ⟨g1, g2, g3, g4, g5⟩ := hJ.go q1 q5
  have hf : fr2 M2 N := go_fr q5 q6
  refine ⟨h1, fun h => ⟨g1, g2, ?_, hf⟩, fun h => ⟨g1, g2, ?_, hf⟩, fun h => ⟨g1, g2, ?_, hf⟩, fun h => ⟨g1, g2, ?_, hf⟩, fun h => ⟨g1, g2, ?_, hf⟩, fun h => ⟨g1, g2, ?_, hf⟩, fun h => ⟨g1, g2, ?_, hf⟩, fun h => ⟨?_, hf⟩⟩
  · subst h
    rw [if_pos rfl]; exact smt_congr (fun i p q => g3 i p (by omega))
  · subst h
    rw [if_neg (by decide), if_pos rfl]; exact mxt_congr (fun i p q => g3 i p (by omega))
  · subst h
    rw [if_neg (by decide), if_neg (by decide), if_pos rfl]
    exact cnt_congr (fun i p q => by rw [g3 i p (by omega)])
  · subst h
    rw [if_neg (by decide), if_neg (by decide), if_neg (by decide), if_pos rfl, g5, g4 197 (by decide) (by decide), g4 193 (by decide) (by decide)]
    exact cnt_congr (fun i p q => shd_eq hL.1 (by omega) g3)
  · subst h
    rw [if_neg (by decide), if_neg (by decide), if_neg (by decide), if_neg (by decide), if_pos rfl]
    exact mxt_congr (fun i p q => by rw [g3 i p (by omega), g3 _ (al i p q 0).1 (al i p q 0).2, g3 _ (al i p q 1).1 (al i p q 1).2])
  · subst h
    rw [if_neg (by decide), if_neg (by decide), if_neg (by decide), if_neg (by decide), if_neg (by decide), if_pos rfl]
    exact smt_congr (fun i p q => by rw [g3 i p (by omega), g3 _ (al i p q 0).1 (al i p q 0).2, g3 _ (al i p q 1).1 (al i p q 1).2])
  · subst h
    rw [if_neg (by decide), if_neg (by decide), if_neg (by decide), if_neg (by decide), if_neg (by decide), if_neg (by decide), if_pos rfl, g5, g4 197 (by decide) (by decide), g4 193 (by decide) (by decide)]
    exact cnt_congr (fun i p q => yld_eq hL.1 (by omega) g3 (fun i p q => g4 _ (by omega) (by omega)))
  · repeat rw [if_neg (by omega)]
theorem p_cell (hJ : Jt k C R M1 M2) (hk : k < 1000) (h1 : -2147483648 ≤ x1 ∧ x1 ≤ 2147483647) (h2 : -2147483648 ≤ x2 ∧ x2 ≤ 2147483647) : zE g g' o o' mX9_cell mX10_cell [zI x1, zI x2] k M1 M2 := by
  obtain ⟨hL, hR⟩ := hJ.lr
  have hn := geo_n hL.1
  have eh := hJ.eh
  have eg := hJ.eg
  have es := hJ.es
  have r1 : M1 27 1 = M2 10 193 := hJ.er 1 (by decide) (by decide)
  have hO := hJ.sok
  have hO' := hJ.sok
  have w1 := wnd_in (t := M1 24 4) hL hO.2.2.2.2.2.2.2.1
  obtain ⟨o1, o2, o3, o4, o5, o6, o7, o8⟩ := hO
  have o4' : (1 : Int) ≤ M1 27 1 ∧ M1 27 1 ≤ 9 := o4
  refine zE_of (A := if ¬ (0 ≤ x1 ∧ x1 < C * R) then -1 else if x2 = 0 then M2 10 x1 else if x2 = 1 then zb (shd C R (M2 10) (M2 10 193) x1 (wnr M2 (M2 10 197))) else if x2 = 2 then M2 10 (96 + x1) else if x2 = 3 then stw C R (M2 10) x1 4 else if x2 = 4 then zb (crest C R (M2 10) x1 (wnr M2 (M2 10 197))) else -1) hJ hk (zki_of rfl (Nat.le_of_ble_eq_true rfl) (SX9_cell_0 (C := C) (R := R) ⟨h1, hL, fun hc => ?_, fun hc => ⟨?_, fr1.rf⟩⟩)) (zki_of rfl (Nat.le_of_ble_eq_true rfl) (SX10_cell_0 (C := C) (R := R) ⟨hR, h1, fun hc => ⟨_, c_goesOn, fun N hq => ?_⟩, fun hc => ⟨?_, fr2.rf⟩⟩))
  · rw [if_neg (by omega)]
    refine ⟨h2, fun h => ⟨by omega, ?_, fr1.rf⟩, fun h => ⟨hO', hc, w1, o1.le (by decide), by omega, ?_⟩, fun h => ⟨by omega, ?_, fr1.rf⟩, fun h => ⟨hO', hc, ?_, fr1.rf⟩, fun h => ⟨hO', hc, w1, o1.le (by decide), ?_⟩, fun h => ⟨?_, fr1.rf⟩⟩
    · rw [if_pos h, eh x1 hc.1 (by omega)]
    · rw [if_neg (by omega), if_pos h, ← es.2, hJ.wq, ← r1, ← zb_congr (shd_eq hL.1 hc eh)]
      exact ⟨fun q => ⟨(zb_f q).symm, fr1.rf⟩, fun q => ⟨(zb_t q).symm, fr1.rf⟩⟩
    · rw [if_neg (by omega), if_neg (by omega), if_pos h, eg x1 hc.1 (by omega)]
    · rw [if_neg (by omega), if_neg (by omega), if_neg (by omega), if_pos h]; exact stw_eq hL.1 hc eh 4
    · rw [if_neg (by omega), if_neg (by omega), if_neg (by omega), if_neg (by omega), if_pos h, ← es.2, hJ.wq, ← zb_congr (crest_eq hL.1 hc eh)]
      exact ⟨fun q => ⟨(zb_f q).symm, fr1.rf⟩, fun q => ⟨(zb_t q).symm, fr1.rf⟩⟩
    · repeat rw [if_neg (by omega)]
  · rw [if_pos hc]
  · rw [if_neg (by omega)]
    obtain ⟨q1, q2, q3, q4, q5, q6⟩ := hq
    obtain ⟨g1, g2, g3, g4, g5⟩ := hJ.go q1 q5
    have hf : fr2 M2 N := go_fr q5 q6
    have g2' := g2
    obtain ⟨u1, u2, u3, u4, u5, u6, u7, u8⟩ := g2
    have p := pmn_in (C := C) (R := R) (H := N 11) (c := x1) 3
    have a1 := alg_in (w := pmn C R (N 11) x1 3) (k := 1) hL.1 hc
    have b1 := u1 x1 hc.1 (by omega)
    have b2 := u1 _ a1.1 (by omega)
    refine ⟨h2, fun h => ⟨by omega, ?_, hf⟩, fun h => ⟨g1, hc, by omega, u1.le (by decide), by omega, ?_, hf⟩, fun h => ⟨by omega, ?_, hf⟩, fun h => ⟨by omega, g1, g2', hc, by omega, ?_, hf⟩, fun h => ⟨g1, g2', hc, ?_, hf⟩, fun h => ⟨?_, hf⟩⟩
    · rw [if_pos h, g4 x1 hc.1 (by omega)]
    · rw [if_neg (by omega), if_pos h, g5, g4 197 (by decide) (by decide), g4 193 (by decide) (by decide)]; exact zb_congr (shd_eq hL.1 hc g3)
    · rw [if_neg (by omega), if_neg (by omega), if_pos h, g4 _ (by omega) (by omega)]
    · rw [if_neg (by omega), if_neg (by omega), if_neg (by omega), if_pos h, ← stw_pmn]; exact stw_eq hL.1 hc g3 4
    · rw [if_neg (by omega), if_neg (by omega), if_neg (by omega), if_neg (by omega), if_pos h, g5, g4 197 (by decide) (by decide)]; exact zb_congr (crest_eq hL.1 hc g3)
    · repeat rw [if_neg (by omega)]
  · rw [if_pos hc]
end QD
