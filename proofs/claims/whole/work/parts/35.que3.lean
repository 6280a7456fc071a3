section QD
variable {g g' : zG} {o o' : Bool} {M1 M2 N1 N2 M : zM} {k C R c x y w A x1 x2 x3 x4 x5 : Int} {s : Nat} {H H' G G' f f' : Int → Int}
theorem smt_tail {n m : Nat} (h : n ≤ m) (hz : ∀ i : Int, n ≤ i → i < m → f i = 0) : smt f m = smt f n := by
  induction m with
  | zero => rw [show n = 0 by omega]
  | succ m ih =>
    by_cases e : n = m + 1
    · rw [e]
    · show smt f m + f m = _
      rw [ih (by omega) (fun i p q => hz i p (by omega)), hz m (by omega) (by omega)]; omega
theorem mxt_nn (f : Int → Int) (n : Nat) : 0 ≤ mxt f n := by
  induction n with
  | zero => exact Int.le_refl 0
  | succ n ih => show 0 ≤ max (mxt f n) (f n); omega
theorem mxt_tail {n m : Nat} (h : n ≤ m) (hz : ∀ i : Int, n ≤ i → i < m → f i = 0) : mxt f m = mxt f n := by
  induction m with
  | zero => rw [show n = 0 by omega]
  | succ m ih =>
    by_cases e : n = m + 1
    · rw [e]
    · show max (mxt f m) (f m) = _
      have := mxt_nn f n
      rw [ih (by omega) (fun i p q => hz i p (by omega)), hz m (by omega) (by omega)]; omega
theorem le_mxt {n : Nat} {i : Int} (h0 : 0 ≤ i) (h1 : i < n) : f i ≤ mxt f n := by
  induction n with
  | zero => omega
  | succ n ih =>
    show f i ≤ max (mxt f n) (f n)
    by_cases e : i = n
    · rw [e]; omega
    · have := ih (by omega); omega
theorem stw_spec (n : Nat) : (∀ i : Nat, i < n → H c - H (alg C R c i 1) ≤ stw C R H c n) ∧ 0 ≤ stw C R H c n ∧ (stw C R H c n = 0 ∨ ∃ i : Nat, i < n ∧ stw C R H c n = H c - H (alg C R c i 1)) := by
  induction n with
  | zero => exact ⟨fun i hi => by omega, Int.le_refl 0, Or.inl rfl⟩
  | succ n ih =>
    have e : stw C R H c (n + 1) = max (stw C R H c n) (H c - H (alg C R c n 1)) := rfl
    refine ⟨fun i hi => ?_, by omega, ?_⟩
    · by_cases h : i = n
      · rw [h]; omega
      · have := ih.1 i (by omega); omega
    · by_cases h : stw C R H c n < H c - H (alg C R c n 1)
      · exact Or.inr ⟨n, by omega, by omega⟩
      · rcases ih.2.2 with h' | ⟨i, hi, h'⟩
        · exact Or.inl (by omega)
        · exact Or.inr ⟨i, by omega, by omega⟩
theorem stw_pmn : stw C R H c 4 = max 0 (H c - H (alg C R c (pmn C R H c 3) 1)) := by
  have p := pmn_in (C := C) (R := R) (H := H) (c := c) 3
  obtain ⟨q, hq⟩ := znn p.1
  have s1 := pmn_spec (C := C) (R := R) (H := H) (c := c) 3
  obtain ⟨a, b, d⟩ := stw_spec (C := C) (R := R) (H := H) (c := c) 4
  rw [hq] at s1 p ⊢
  have a1 := a q (by omega)
  rcases d with d | ⟨i, hi, d⟩
  · omega
  · have := s1.1 i (by omega); omega
theorem greatest_eq (hG : Geo C R) : mxt (fun c => stw C R H c 4) (C * R).toNat = mxt (fun c => max (adf (H c) (H (alg C R c 0 1))) (adf (H c) (H (alg C R c 1 1)))) (C * R).toNat := by
  have hn := geo_n hG
  have key : ∀ c : Int, 0 ≤ c → c < C * R → ∀ v : Int, v ≤ max (adf (H c) (H (alg C R c 0 1))) (adf (H c) (H (alg C R c 1 1))) → v ≤ mxt (fun c => max (adf (H c) (H (alg C R c 0 1))) (adf (H c) (H (alg C R c 1 1)))) (C * R).toNat := fun c h0 h1 v hv => by
    have := le_mxt (f := fun c => max (adf (H c) (H (alg C R c 0 1))) (adf (H c) (H (alg C R c 1 1)))) (n := (C * R).toNat) h0 (by omega)
    exact Int.le_trans hv this
  have key2 : ∀ c : Int, 0 ≤ c → c < C * R → stw C R H c 4 ≤ mxt (fun c => stw C R H c 4) (C * R).toNat := fun c h0 h1 => le_mxt (f := fun c => stw C R H c 4) h0 (by omega)
  apply Int.le_antisymm
  · refine (mxt_in (mxt_nn _ _) (fun c h0 h1 => ?_)).2
    rcases (stw_spec (C := C) (R := R) (H := H) (c := c) 4).2.2 with d | ⟨i, hi, d⟩
    · have := mxt_nn (fun c => max (adf (H c) (H (alg C R c 0 1))) (adf (H c) (H (alg C R c 1 1)))) (C * R).toNat
      show stw C R H c 4 ≤ _
      omega
    · have hc : 0 ≤ c ∧ c < C * R := by omega
      have a := alg_in (w := (i : Int)) (k := 1) hG hc
      have hb := alg_back (w := (i : Int)) hG hc (by omega)
      show stw C R H c 4 ≤ _
      rw [d]
      have hi' : i = 0 ∨ i = 1 ∨ i = 2 ∨ i = 3 := by omega
      rcases hi' with rfl | rfl | rfl | rfl
      · exact key c hc.1 hc.2 _ (by show H c - H (alg C R c 0 1) ≤ _; unfold adf; omega)
      · exact key c hc.1 hc.2 _ (by show H c - H (alg C R c 1 1) ≤ _; unfold adf; omega)
      · refine key (alg C R c 2 1) a.1 a.2 _ ?_
        have hb : alg C R (alg C R c 2 1) 0 1 = c := hb
        rw [hb]
        show H c - H (alg C R c 2 1) ≤ _
        unfold adf; omega
      · refine key (alg C R c 3 1) a.1 a.2 _ ?_
        have hb : alg C R (alg C R c 3 1) 1 1 = c := hb
        rw [hb]
        show H c - H (alg C R c 3 1) ≤ _
        unfold adf; omega
  · refine (mxt_in (mxt_nn _ _) (fun c h0 h1 => ?_)).2
    have hc : 0 ≤ c ∧ c < C * R := by omega
    have one : ∀ i : Nat, i < 2 → adf (H c) (H (alg C R c i 1)) ≤ mxt (fun c => stw C R H c 4) (C * R).toNat := fun i hi => by
      have a := alg_in (w := (i : Int)) (k := 1) hG hc
      have hb := alg_back (w := (i : Int)) hG hc (by omega)
      have k1 := key2 c hc.1 hc.2
      have k2 := key2 _ a.1 a.2
      have s1 := (stw_spec (C := C) (R := R) (H := H) (c := c) 4).1 i (by omega)
      have s2 := (stw_spec (C := C) (R := R) (H := H) (c := alg C R c i 1) 4).1 (i + 2) (by omega)
      have e : opp (i : Int) = ((i + 2 : Nat) : Int) := by unfold opp; split <;> omega
      rw [e] at hb
      rw [hb] at s2
      unfold adf; split <;> omega
    have o0 := one 0 (by decide)
    have o1 := one 1 (by decide)
    show max (adf (H c) (H (alg C R c ((0 : Nat) : Int) 1))) (adf (H c) (H (alg C R c ((1 : Nat) : Int) 1))) ≤ _
    omega
theorem crest_eq (hG : Geo C R) (hc : 0 ≤ c ∧ c < C * R) (h : eq96 H H') : crest C R H c w ↔ crest C R H' c w := by
  have hn := geo_n hG
  have a1 := alg_in (w := w) (k := 1) hG hc
  have a2 := alg_in (w := opp w) (k := 1) hG hc
  unfold crest
  rw [h c hc.1 (by omega), h _ a1.1 (by omega), h _ a2.1 (by omega)]
theorem p_all (hJ : Jt k C R M1 M2) (hk : k < 1000) (h1 : -2147483648 ≤ x1 ∧ x1 ≤ 2147483647) : zE g g' o o' mX9_all mX10_all [zI x1] k M1 M2 := by
  obtain ⟨hL, hR⟩ := hJ.lr
  have hn := geo_n hL.1
  have hz := hJ.ok.2.2.2.2.2.2.2.2
  have eh := hJ.eh
  have e14 : M1 14 2 = C * R := hL.2.2.2.1
  have r1 : M1 27 1 = M2 10 193 := hJ.er 1 (by decide) (by decide)
  have al : ∀ c : Int, 0 ≤ c → c < (C * R).toNat → ∀ w : Int, 0 ≤ alg C R c w 1 ∧ alg C R c w 1 < 96 := fun c p q w => by have := alg_in (w := w) (k := 1) hL.1 (c := c) (by omega); omega
  refine zE_of (A := if x1 = 0 then smt (M2 10) (C * R).toNat else if x1 = 1 then mxt (M2 10) (C * R).toNat else if x1 = 2 then cnt (fun i => M2 10 i = 0) (C * R).toNat else if x1 = 3 then cnt (fun c => shd C R (M2 10) (M2 10 193) c (wnr M2 (M2 10 197))) (C * R).toNat else if x1 = 4 then mxt (fun c => max (adf (M2 10 c) (M2 10 (alg C R c 0 1))) (adf (M2 10 c) (M2 10 (alg C R c 1 1)))) (C * R).toNat else if x1 = 5 then smt (fun c => adf (M2 10 c) (M2 10 (alg C R c 0 1)) + adf (M2 10 c) (M2 10 (alg C R c 1 1))) (C * R).toNat else if x1 = 6 then cnt (fun c => yld C R (M2 10) (fun i => M2 10 (96 + i)) (M2 10 193) c (wnr M2 (M2 10 197))) (C * R).toNat else -1) hJ hk (zki_of rfl (Nat.le_of_ble_eq_true rfl) (SX9_all_0 (C := C) (R := R) ⟨h1, fun h => ⟨hJ.sok, ?_, fr1.rf⟩, fun h => ⟨hJ.sok, ?_, fr1.rf⟩, fun h => ⟨hL, hJ.sok, e14, ?_, fr1.rf⟩, fun h => ⟨hL, hJ.sok, ?_, fr1.rf⟩, fun h => ⟨hL, hJ.sok, ?_, fr1.rf⟩, fun h => ⟨hL, hJ.sok, ?_, fr1.rf⟩, fun h => ⟨hL, hJ.sok, ?_, fr1.rf⟩, fun h => ⟨?_, fr1.rf⟩⟩)) (zki_of rfl (Nat.le_of_ble_eq_true rfl) (SX10_all_0 (C := C) (R := R) ⟨_, c_goesOn, fun N hq => ?_⟩))
  · subst h
    rw [if_pos rfl, smt_congr (f := M1 25) (h := M2 10) (fun i p q => eh i p (by omega)), smt_tail (n := (C * R).toNat) (by omega) (fun i p q => hz i (by omega) (by omega))]
  · subst h
    rw [if_neg (by decide), if_pos rfl, mxt_congr (f := M1 25) (h := M2 10) (fun i p q => eh i p (by omega)), mxt_tail (n := (C * R).toNat) (by omega) (fun i p q => hz i (by omega) (by omega))]
  · subst h
    rw [if_neg (by decide), if_neg (by decide), if_pos rfl]
    exact cnt_congr (fun i p q => by rw [eh i p (by omega)])
  · subst h
    rw [if_neg (by decide), if_neg (by decide), if_neg (by decide), if_pos rfl, ← hJ.wq, hJ.es.2, r1]
    exact cnt_congr (fun i p q => shd_eq hL.1 (by omega) eh)
  · subst h
    rw [if_neg (by decide), if_neg (by decide), if_neg (by decide), if_neg (by decide), if_pos rfl, ← greatest_eq hL.1]
    exact mxt_congr (fun i p q => stw_eq hL.1 (by omega) eh 4)
  · subst h
    rw [if_neg (by decide), if_neg (by decide), if_neg (by decide), if_neg (by decide), if_neg (by decide), if_pos rfl]
    exact smt_congr (fun i p q => by rw [eh i p (by omega), eh _ (al i p q 0).1 (al i p q 0).2, eh _ (al i p q 1).1 (al i p q 1).2])
  · subst h
    rw [if_neg (by decide), if_neg (by decide), if_neg (by decide), if_neg (by decide), if_neg (by decide), if_neg (by decide), if_pos rfl, ← hJ.wq, hJ.es.2, r1]
    exact cnt_congr (fun i p q => yld_eq hL.1 (by omega) eh hJ.eg)
  · repeat rw [if_neg (by omega)]
  obtain ⟨q1, q2, q3, q4, q5, q6⟩ := hq
  obtain ⟨g1, g2, g3, g4, g5⟩ := hJ.go q1 q5
  have hf : fr2 M2 N := go_fr q5 q6
  refine ⟨h1, fun h => ⟨g1, g2, ?_, hf⟩, fun h => ⟨g1, g2, ?_, hf⟩, fun h => ⟨g1, g2, ?_, hf⟩, fun h => ⟨g1, g2, ?_, hf⟩, fun h => ⟨g1, g2, ?_, hf⟩, fun h => ⟨g1, g2, ?_, hf⟩, fun h => ⟨g1, g2, ?_, hf⟩, fun h => ⟨?_, hf⟩⟩
  · subst h
    rw [if_pos rfl]; exact smt_congr (fun i p q => g3 i p (by omega))
  · subst h
    rw [if_neg (by decide), if_pos rfl]; exact mxt_congr (fun i p q => g3 i p (by omega))
  · subst h
    rw [if_neg (by decide), if_neg (by decide), if_pos rfl]
    exact cnt_congr (fun i p q => by rw [g3 i p (by omega)])
  · subst h
    rw [if_neg (by decide), if_neg (by decide), if_neg (by decide), if_pos rfl, g5, g4 197 (by decide) (by decide), g4 193 (by decide) (by decide)]
    exact cnt_congr (fun i p q => shd_eq hL.1 (by omega) g3)
  · subst h
    rw [if_neg (by decide), if_neg (by decide), if_neg (by decide), if_neg (by decide), if_pos rfl]
    exact mxt_congr (fun i p q => by rw [g3 i p (by omega), g3 _ (al i p q 0).1 (al i p q 0).2, g3 _ (al i p q 1).1 (al i p q 1).2])
  · subst h
    rw [if_neg (by decide), if_neg (by decide), if_neg (by decide), if_neg (by decide), if_neg (by decide), if_pos rfl]
    exact smt_congr (fun i p q => by rw [g3 i p (by omega), g3 _ (al i p q 0).1 (al i p q 0).2, g3 _ (al i p q 1).1 (al i p q 1).2])
  · subst h
    rw [if_neg (by decide), if_neg (by decide), if_neg (by decide), if_neg (by decide), if_neg (by decide), if_neg (by decide), if_pos rfl, g5, g4 197 (by decide) (by decide), g4 193 (by decide) (by decide)]
    exact cnt_congr (fun i p q => yld_eq hL.1 (by omega) g3 (fun i p q => g4 _ (by omega) (by omega)))
  · repeat rw [if_neg (by omega)]
theorem p_cell (hJ : Jt k C R M1 M2) (hk : k < 1000) (h1 : -2147483648 ≤ x1 ∧ x1 ≤ 2147483647) (h2 : -2147483648 ≤ x2 ∧ x2 ≤ 2147483647) : zE g g' o o' mX9_cell mX10_cell [zI x1, zI x2] k M1 M2 := by
  obtain ⟨hL, hR⟩ := hJ.lr
  have hn := geo_n hL.1
  have eh := hJ.eh
  have eg := hJ.eg
  have es := hJ.es
  have r1 : M1 27 1 = M2 10 193 := hJ.er 1 (by decide) (by decide)
  have hO := hJ.sok
  have hO' := hJ.sok
  have w1 := wnd_in (t := M1 24 4) hL hO.2.2.2.2.2.2.2.1
  obtain ⟨o1, o2, o3, o4, o5, o6, o7, o8⟩ := hO
  have o4' : (1 : Int) ≤ M1 27 1 ∧ M1 27 1 ≤ 9 := o4
  refine zE_of (A := if ¬ (0 ≤ x1 ∧ x1 < C * R) then -1 else if x2 = 0 then M2 10 x1 else if x2 = 1 then zb (shd C R (M2 10) (M2 10 193) x1 (wnr M2 (M2 10 197))) else if x2 = 2 then M2 10 (96 + x1) else if x2 = 3 then stw C R (M2 10) x1 4 else if x2 = 4 then zb (crest C R (M2 10) x1 (wnr M2 (M2 10 197))) else -1) hJ hk (zki_of rfl (Nat.le_of_ble_eq_true rfl) (SX9_cell_0 (C := C) (R := R) ⟨h1, hL, fun hc => ?_, fun hc => ⟨?_, fr1.rf⟩⟩)) (zki_of rfl (Nat.le_of_ble_eq_true rfl) (SX10_cell_0 (C := C) (R := R) ⟨hR, h1, fun hc => ⟨_, c_goesOn, fun N hq => ?_⟩, fun hc => ⟨?_, fr2.rf⟩⟩))
  · rw [if_neg (by omega)]
    refine ⟨h2, fun h => ⟨by omega, ?_, fr1.rf⟩, fun h => ⟨hO', hc, w1, o1.le (by decide), by omega, ?_⟩, fun h => ⟨by omega, ?_, fr1.rf⟩, fun h => ⟨hO', hc, ?_, fr1.rf⟩, fun h => ⟨hO', hc, w1, o1.le (by decide), ?_⟩, fun h => ⟨?_, fr1.rf⟩⟩
    · rw [if_pos h, eh x1 hc.1 (by omega)]
    · rw [if_neg (by omega), if_pos h, ← es.2, hJ.wq, ← r1, ← zb_congr (shd_eq hL.1 hc eh)]
      exact ⟨fun q => ⟨(zb_f q).symm, fr1.rf⟩, fun q => ⟨(zb_t q).symm, fr1.rf⟩⟩
    · rw [if_neg (by omega), if_neg (by omega), if_pos h, eg x1 hc.1 (by omega)]
    · rw [if_neg (by omega), if_neg (by omega), if_neg (by omega), if_pos h]; exact stw_eq hL.1 hc eh 4
    · rw [if_neg (by omega), if_neg (by omega), if_neg (by omega), if_neg (by omega), if_pos h, ← es.2, hJ.wq, ← zb_congr (crest_eq hL.1 hc eh)]
      exact ⟨fun q => ⟨(zb_f q).symm, fr1.rf⟩, fun q => ⟨(zb_t q).symm, fr1.rf⟩⟩
    · repeat rw [if_neg (by omega)]
  · rw [if_pos hc]
  · rw [if_neg (by omega)]
    obtain ⟨q1, q2, q3, q4, q5, q6⟩ := hq
    obtain ⟨g1, g2, g3, g4, g5⟩ := hJ.go q1 q5
    have hf : fr2 M2 N := go_fr q5 q6
    have g2' := g2
    obtain ⟨u1, u2, u3, u4, u5, u6, u7, u8⟩ := g2
    have p := pmn_in (C := C) (R := R) (H := N 11) (c := x1) 3
    have a1 := alg_in (w := pmn C R (N 11) x1 3) (k := 1) hL.1 hc
    have b1 := u1 x1 hc.1 (by omega)
    have b2 := u1 _ a1.1 (by omega)
    refine ⟨h2, fun h => ⟨by omega, ?_, hf⟩, fun h => ⟨g1, hc, by omega, u1.le (by decide), by omega, ?_, hf⟩, fun h => ⟨by omega, ?_, hf⟩, fun h => ⟨by omega, g1, g2', hc, by omega, ?_, hf⟩, fun h => ⟨g1, g2', hc, ?_, hf⟩, fun h => ⟨?_, hf⟩⟩
    · rw [if_pos h, g4 x1 hc.1 (by omega)]
    · rw [if_neg (by omega), if_pos h, g5, g4 197 (by decide) (by decide), g4 193 (by decide) (by decide)]; exact zb_congr (shd_eq hL.1 hc g3)
    · rw [if_neg (by omega), if_neg (by omega), if_pos h, g4 _ (by omega) (by omega)]
    · rw [if_neg (by omega), if_neg (by omega), if_neg (by omega), if_pos h, ← stw_pmn]; exact stw_eq hL.1 hc g3 4
    · rw [if_neg (by omega), if_neg (by omega), if_neg (by omega), if_neg (by omega), if_pos h, g5, g4 197 (by decide) (by decide)]; exact zb_congr (crest_eq hL.1 hc g3)
    · repeat rw [if_neg (by omega)]
  · rw [if_pos hc]
/-- the highest of a column or row -/
def skf (C : Int) (H : Int → Int) (n what : Int) : Int → Int := fun c => if (if what = 0 then c % C else c / C) = n then H c else 0
theorem skf_t {n what : Int} (h : (if what = 0 then c % C else c / C) = n) : skf C H n what c = H c := if_pos h
theorem skf_f {n what : Int} (h : (if what = 0 then c % C else c / C) ≠ n) : skf C H n what c = 0 := if_neg h
theorem mxt_take {k : Nat} {v : Int} (e : f k = v) : mxt f (k + 1) = max (mxt f k) v := by show max (mxt f k) (f k) = _; rw [e]
theorem mxt_skip {k : Nat} (e : f k = 0) : mxt f (k + 1) = mxt f k := by have := mxt_nn f k; show max (mxt f k) (f k) = _; rw [e]; omega
theorem skf_in {n what : Int} (hB : BdB 1000000 H) (m : Nat) (hm : m ≤ 96) : 0 ≤ mxt (skf C H n what) m ∧ mxt (skf C H n what) m ≤ 1000000 :=
  mxt_in (by decide) (fun i h0 h1 => by
    by_cases h : (if what = 0 then i % C else i / C) = n
    · rw [skf_t h]; exact (hB i h0 (by omega)).2
    · rw [skf_f h]; omega)
theorem p_skyline (hJ : Jt k C R M1 M2) (hk : k < 1000) (h1 : -2147483648 ≤ x1 ∧ x1 ≤ 2147483647) (h2 : -2147483648 ≤ x2 ∧ x2 ≤ 2147483647) : zE g g' o o' mX9_skyline mX10_skyline [zI x1, zI x2] k M1 M2 := by
  obtain ⟨hL, hR⟩ := hJ.lr
  have hn := geo_n hL.1
  have hC : 0 < C := by have := hL.1.1; omega
  have hC2 : C ≤ 12 := hL.1.2.1
  have hRr : R ≤ 8 := hL.1.2.2.2
  have hR1 : 1 ≤ R := hL.1.2.2.1
  obtain ⟨w0, w1, w2, -⟩ := hJ.sw
  have hB1 : BdB 1000000 (M1 25) := hJ.sok.1
  have hB2 : BdB 1000000 (M2 10) := hJ.ok.1
  have hcell := hL.2.2.2.2.2.2.2.2
  obtain ⟨n, hnn⟩ := znn (show 0 ≤ C * R by omega)
  have hdm : ∀ c : Int, 0 ≤ c → c < n → (0 ≤ c % C ∧ c % C < C) ∧ 0 ≤ c / C ∧ c / C ≤ 96 := fun c p q => by
    have hx := xy hL.1 (c := c) (by omega)
    exact ⟨hx.1, hx.2.1.1, by omega⟩
  have cl : ∀ what f3 : Int, (f3 = 1 ∧ what = 0 ∨ f3 = 0 ∧ what = 1) → zT g (z1 o) mX9_skyline (zQi (z1 o) (fun r N => r = mxt (skf C (M1 25) x1 what) n ∧ fr1 M1 N)) 60 [(0, zA g 1), (1, zI x1), (3, zI f3), (5, zI 0), (6, zI 0)] [] M1 := by
    intro what f3 hw
    refine zup (fun j => zT g (z1 o) mX9_skyline (zQi (z1 o) (fun r N => r = mxt (skf C (M1 25) x1 what) n ∧ fr1 M1 N)) 60 [(0, zA g 1), (1, zI x1), (3, zI f3), (5, zI (mxt (skf C (M1 25) x1 what) j)), (6, zI j)] [] M1) n (SX9_skyline_60 ⟨by omega, by omega, fun _ => ⟨rfl, fr1.rf⟩, fun h => by omega⟩) (fun j hj ih => ?_)
    have hc := hcell j (by omega) (by omega)
    have hd := hdm j (by omega) (by omega)
    have b := hB1 j (by omega) (by omega)
    have b' := skf_in (C := C) (n := x1) (what := what) hB1 j (by omega)
    refine SX9_skyline_60 ⟨by omega, by omega, fun h => by omega, fun h => ⟨by omega, fun h3 => ?_, fun h3 => ?_⟩⟩
    · have hw1 : what = 1 := by omega
      rw [hc.2.1]
      refine ⟨by omega, by omega, h1, fun h4 => ?_, fun h4 => ⟨by omega, by omega, ?_⟩⟩
      · rw [mxt_skip (skf_f (by rw [if_neg (by omega)]; exact h4))] at ih; exact ih
      · rw [mxt_take (skf_t (by rw [if_neg (by omega)]; exact h4))] at ih; exact ih
    · have hw1 : what = 0 := by omega
      rw [hc.1]
      refine ⟨by omega, by omega, h1, fun h4 => ?_, fun h4 => ⟨by omega, by omega, ?_⟩⟩
      · rw [mxt_skip (skf_f (by rw [if_pos hw1]; exact h4))] at ih; exact ih
      · rw [mxt_take (skf_t (by rw [if_pos hw1]; exact h4))] at ih; exact ih
  have rl : (x2 = 0 ∨ x2 = 1) → zT g' (z2 o') mX10_skyline (zQi (z2 o') (fun r N => r = mxt (skf C (M2 10) x1 x2) n ∧ fr2 M2 N)) 41 [(0, zA g' 1), (1, zI x1), (2, zI x2), (3, zI 0), (4, zI 0)] [] M2 := by
    intro hw
    refine zup (fun j => zT g' (z2 o') mX10_skyline (zQi (z2 o') (fun r N => r = mxt (skf C (M2 10) x1 x2) n ∧ fr2 M2 N)) 41 [(0, zA g' 1), (1, zI x1), (2, zI x2), (3, zI (mxt (skf C (M2 10) x1 x2) j)), (4, zI j)] [] M2) n (SX10_skyline_41 (C := C) (R := R) ⟨hR, by omega, by omega, fun _ => ⟨rfl, fr2.rf⟩, fun h => by omega⟩) (fun j hj ih => ?_)
    have hd := hdm j (by omega) (by omega)
    have b := hB2 j (by omega) (by omega)
    have b' := skf_in (C := C) (n := x1) (what := x2) hB2 j (by omega)
    refine SX10_skyline_41 (C := C) (R := R) ⟨hR, by omega, by omega, fun h => by omega, fun h => ⟨by omega, fun h3 => ?_, fun h3 => ?_⟩⟩
    · refine ⟨by omega, by omega, by omega, h1, fun h4 => ?_, fun h4 => ⟨by omega, by omega, by omega, ?_⟩⟩
      · rw [mxt_skip (skf_f (by rw [if_neg h3]; exact h4))] at ih; exact ih
      · rw [mxt_take (skf_t (by rw [if_neg h3]; exact h4))] at ih; exact ih
    · refine ⟨by omega, by omega, by omega, h1, fun h4 => ?_, fun h4 => ⟨by omega, by omega, by omega, ?_⟩⟩
      · rw [mxt_skip (skf_f (by rw [if_pos h3]; exact h4))] at ih; exact ih
      · rw [mxt_take (skf_t (by rw [if_pos h3]; exact h4))] at ih; exact ih
  have ee : ∀ what : Int, mxt (skf C (M1 25) x1 what) n = mxt (skf C (M2 10) x1 what) n := fun what => mxt_congr (fun i p q => by unfold skf; rw [hJ.eh i p (by omega)])
  refine zE_of (A := if x2 = 0 ∧ 0 ≤ x1 ∧ x1 < C then mxt (skf C (M2 10) x1 0) n else if x2 = 1 ∧ 0 ≤ x1 ∧ x1 < R then mxt (skf C (M2 10) x1 1) n else -1) hJ hk (zki_of rfl (Nat.le_of_ble_eq_true rfl) (SX9_skyline_0 ⟨h2, fun h3 => ⟨fun h4 => ⟨?_, fr1.rf⟩, fun h4 => ⟨fun h5 => ⟨?_, fr1.rf⟩, fun h5 => ⟨h1, fun h6 => ⟨?_, fr1.rf⟩, fun h6 => ⟨by omega, fun h7 => ?_, fun h7 => ⟨?_, fr1.rf⟩⟩⟩⟩⟩, fun h3 => ⟨fun h4 => ⟨?_, fr1.rf⟩, fun h4 => ⟨fun h5 => ⟨?_, fr1.rf⟩, fun h5 => ⟨h1, fun h6 => ⟨?_, fr1.rf⟩, fun h6 => ⟨by omega, fun h7 => ?_, fun h7 => ⟨?_, fr1.rf⟩⟩⟩⟩⟩⟩)) (zki_of rfl (Nat.le_of_ble_eq_true rfl) (SX10_skyline_0 (C := C) (R := R) ⟨h2, fun h3 => ⟨?_, fr2.rf⟩, fun h3 => ⟨h2, fun h4 => ⟨hR, h1, by omega, fun h5 => ?_, fun h5 => ⟨?_, fr2.rf⟩⟩, fun h4 => ⟨hR, h1, by omega, fun h5 => ?_, fun h5 => ⟨?_, fr2.rf⟩⟩⟩⟩))
  · rw [if_neg (by omega), if_neg (by omega)]
  · rw [if_neg (by omega), if_neg (by omega)]
  · rw [if_neg (by omega), if_neg (by omega)]
  · rw [if_neg (by omega), if_pos (by omega), ← ee]; exact cl 1 0 (Or.inr ⟨rfl, rfl⟩)
  · rw [if_neg (by omega), if_neg (by omega)]
  · rw [if_neg (by omega), if_neg (by omega)]
  · rw [if_neg (by omega), if_neg (by omega)]
  · rw [if_neg (by omega), if_neg (by omega)]
  · rw [if_pos (by omega), ← ee]; exact cl 0 1 (Or.inl ⟨rfl, rfl⟩)
  · rw [if_neg (by omega), if_neg (by omega)]
  · rw [if_neg (by omega), if_neg (by omega)]
  · rw [if_neg (by omega), if_pos (by omega)]
    have hx : x2 = 1 := by omega
    subst hx
    exact rl (Or.inr rfl)
  · rw [if_neg (by omega), if_neg (by omega)]
  · rw [if_pos (by omega)]
    subst h4
    exact rl (Or.inl rfl)
  · rw [if_neg (by omega), if_neg (by omega)]
/-- four bytes more -/
def byt (x : Int) (j : Nat) : Int := (x / (2 ^ j : Nat)) % 256
def app (f : Int → Int) (n x : Int) : Int → Int := up (up (up (up f n (byt x 24)) (n + 1) (byt x 16)) (n + 2) (byt x 8)) (n + 3) (byt x 0)
theorem byt_in (x : Int) (j : Nat) : 0 ≤ byt x j ∧ byt x j ≤ 255 := by have := md (C := 256) (k := x / (2 ^ j : Nat)) (by decide); unfold byt; omega
theorem c_append (h1 : -2147483648 ≤ x ∧ x ≤ 2147483647) (hn : 0 ≤ M 2 1 ∧ M 2 1 + 4 ≤ 900) : zKv g (z1 o) mX8_append [zA g 2, zI x] M (fun M' => M' 3 = app (M 3) (M 2 1) x ∧ M' 2 1 = M 2 1 + 4 ∧ ∀ b : Nat, b ≠ 2 → b ≠ 3 → M' b = M b) := by
  refine zkv_of rfl (Nat.le_of_ble_eq_true rfl) (SX8_append_0 ?_)
  refine SX8_append_3 ⟨by omega, fun h => by omega, fun _ => ⟨by omega, fun h => by omega, fun _ => ⟨h1, by omega, by omega, fun N1 e1 => ?_⟩⟩⟩
  have l1 : N1 2 = M 2 := by rw [e1, zu_other (by decide)]
  rw [l1]
  obtain ⟨P1, p1⟩ : ∃ P : zM, P = zu N1 2 1 (M 2 1 + 1) := ⟨_, rfl⟩
  rw [← p1]
  have m1 : P1 2 1 = M 2 1 + 1 := by rw [p1, zu_at]
  have r1 : P1 3 = up (M 3) (M 2 1) (byt x 24) := by rw [p1, zu_other (by decide), e1, zu_zrw, zrw_row]; rfl
  have b1 : ∀ b : Nat, b ≠ 2 → b ≠ 3 → P1 b = M b := fun b p q => by rw [p1, zu_other p, e1, zu_other q]
  refine SX8_append_3 ⟨by omega, fun h => by omega, fun _ => ⟨by omega, fun h => by omega, fun _ => ⟨h1, by omega, by omega, fun N2 e2 => ?_⟩⟩⟩
  have l2 : N2 2 = P1 2 := by rw [e2, zu_other (by decide)]
  rw [l2]
  obtain ⟨P2, p2⟩ : ∃ P : zM, P = zu N2 2 1 (P1 2 1 + 1) := ⟨_, rfl⟩
  rw [← p2]
  have m2 : P2 2 1 = M 2 1 + 2 := by rw [p2, zu_at]; omega
  have r2 : P2 3 = up (P1 3) (M 2 1 + 1) (byt x 16) := by rw [p2, zu_other (by decide), e2, zu_zrw, zrw_row, m1]; rfl
  have b2 : ∀ b : Nat, b ≠ 2 → b ≠ 3 → P2 b = M b := fun b p q => by rw [p2, zu_other p, e2, zu_other q, b1 b p q]
  refine SX8_append_3 ⟨by omega, fun h => by omega, fun _ => ⟨by omega, fun h => by omega, fun _ => ⟨h1, by omega, by omega, fun N3 e3 => ?_⟩⟩⟩
  have l3 : N3 2 = P2 2 := by rw [e3, zu_other (by decide)]
  rw [l3]
  obtain ⟨P3, p3⟩ : ∃ P : zM, P = zu N3 2 1 (P2 2 1 + 1) := ⟨_, rfl⟩
  rw [← p3]
  have m3 : P3 2 1 = M 2 1 + 3 := by rw [p3, zu_at]; omega
  have r3 : P3 3 = up (P2 3) (M 2 1 + 2) (byt x 8) := by rw [p3, zu_other (by decide), e3, zu_zrw, zrw_row, m2]; rfl
  have b3 : ∀ b : Nat, b ≠ 2 → b ≠ 3 → P3 b = M b := fun b p q => by rw [p3, zu_other p, e3, zu_other q, b2 b p q]
  refine SX8_append_3 ⟨by omega, fun h => by omega, fun _ => ⟨by omega, fun h => by omega, fun _ => ⟨h1, by omega, by omega, fun N4 e4 => ?_⟩⟩⟩
  have l4 : N4 2 = P3 2 := by rw [e4, zu_other (by decide)]
  rw [l4]
  refine SX8_append_3 ⟨by omega, fun _ => ⟨?_, ?_, fun b p q => ?_⟩, fun h => by omega⟩
  · rw [zu_other (by decide), e4, zu_zrw, zrw_row, m3, r3, r2, r1]; rfl
  · rw [zu_at]; omega
  · rw [zu_other p, e4, zu_other q, b3 b p q]
theorem c_four (h1 : -2147483648 ≤ x ∧ x ≤ 2147483647) (hn : 0 ≤ M 1 1 ∧ M 1 1 + 4 ≤ 900) : zKv g (z2 o) mX10_four [zA g 1, zI x] M (fun M' => M' 2 = app (M 2) (M 1 1) x ∧ M' 1 1 = M 1 1 + 4 ∧ (∀ b : Nat, b ≠ 1 → b ≠ 2 → M' b = M b) ∧ ∀ i : Int, i ≠ 1 → M' 1 i = M 1 i) := by
  refine zkv_of rfl (Nat.le_of_ble_eq_true rfl) (SX10_four_0 ?_)
  refine SX10_four_3 ⟨by omega, fun h => by omega, fun _ => ⟨h1, by omega, by omega, fun N1 e1 => ?_⟩⟩
  have l1 : N1 1 = M 1 := by rw [e1, zu_other (by decide)]
  rw [l1]
  obtain ⟨P1, p1⟩ : ∃ P : zM, P = zu N1 1 1 (M 1 1 + 1) := ⟨_, rfl⟩
  rw [← p1]
  have m1 : P1 1 1 = M 1 1 + 1 := by rw [p1, zu_at]
  have i1 : ∀ i : Int, i ≠ 1 → P1 1 i = M 1 i := fun i hi => by rw [p1, zu_row, if_neg hi, l1]
  have r1 : P1 2 = up (M 2) (M 1 1) (byt x 24) := by rw [p1, zu_other (by decide), e1, zu_zrw, zrw_row]; rfl
  have b1 : ∀ b : Nat, b ≠ 1 → b ≠ 2 → P1 b = M b := fun b p q => by rw [p1, zu_other p, e1, zu_other q]
  refine SX10_four_3 ⟨by omega, fun h => by omega, fun _ => ⟨h1, by omega, by omega, fun N2 e2 => ?_⟩⟩
  have l2 : N2 1 = P1 1 := by rw [e2, zu_other (by decide)]
  rw [l2]
  obtain ⟨P2, p2⟩ : ∃ P : zM, P = zu N2 1 1 (P1 1 1 + 1) := ⟨_, rfl⟩
  rw [← p2]
  have m2 : P2 1 1 = M 1 1 + 2 := by rw [p2, zu_at]; omega
  have i2 : ∀ i : Int, i ≠ 1 → P2 1 i = M 1 i := fun i hi => by rw [p2, zu_row, if_neg hi, l2, i1 i hi]
  have r2 : P2 2 = up (P1 2) (M 1 1 + 1) (byt x 16) := by rw [p2, zu_other (by decide), e2, zu_zrw, zrw_row, m1]; rfl
  have b2 : ∀ b : Nat, b ≠ 1 → b ≠ 2 → P2 b = M b := fun b p q => by rw [p2, zu_other p, e2, zu_other q, b1 b p q]
  refine SX10_four_3 ⟨by omega, fun h => by omega, fun _ => ⟨h1, by omega, by omega, fun N3 e3 => ?_⟩⟩
  have l3 : N3 1 = P2 1 := by rw [e3, zu_other (by decide)]
  rw [l3]
  obtain ⟨P3, p3⟩ : ∃ P : zM, P = zu N3 1 1 (P2 1 1 + 1) := ⟨_, rfl⟩
  rw [← p3]
  have m3 : P3 1 1 = M 1 1 + 3 := by rw [p3, zu_at]; omega
  have i3 : ∀ i : Int, i ≠ 1 → P3 1 i = M 1 i := fun i hi => by rw [p3, zu_row, if_neg hi, l3, i2 i hi]
  have r3 : P3 2 = up (P2 2) (M 1 1 + 2) (byt x 8) := by rw [p3, zu_other (by decide), e3, zu_zrw, zrw_row, m2]; rfl
  have b3 : ∀ b : Nat, b ≠ 1 → b ≠ 2 → P3 b = M b := fun b p q => by rw [p3, zu_other p, e3, zu_other q, b2 b p q]
  refine SX10_four_3 ⟨by omega, fun h => by omega, fun _ => ⟨h1, by omega, by omega, fun N4 e4 => ?_⟩⟩
  have l4 : N4 1 = P3 1 := by rw [e4, zu_other (by decide)]
  rw [l4]
  refine SX10_four_3 ⟨by omega, fun _ => ⟨?_, ?_, fun b p q => ?_, fun i hi => ?_⟩, fun h => by omega⟩
  · rw [zu_other (by decide), e4, zu_zrw, zrw_row, m3, r3, r2, r1]; rfl
  · rw [zu_at]; omega
  · rw [zu_other p, e4, zu_other q, b3 b p q]
  · rw [zu_row, if_neg hi, l4, i3 i hi]
def eqt (f f' : Int → Int) (n : Int) : Prop := ∀ i : Int, 0 ≤ i → i < n → f i = f' i ∧ 0 ≤ f' i ∧ f' i ≤ 255
theorem eqt.ap {n : Int} (h : eqt f f' n) : eqt (app f n x) (app f' n x) (n + 4) := by
  have c0 := byt_in x 24
  have c1 := byt_in x 16
  have c2 := byt_in x 8
  have c3 := byt_in x 0
  intro i h0 h1
  unfold app up
  split
  · exact ⟨rfl, c3⟩
  · split
    · exact ⟨rfl, c2⟩
    · split
      · exact ⟨rfl, c1⟩
      · split
        · exact ⟨rfl, c0⟩
        · exact h i h0 (by omega)
theorem p_feed (hJ : Jt k C R M1 M2) (hk : k < 1000) (h1 : -2147483648 ≤ x1 ∧ x1 ≤ 2147483647) (h2 : -2147483648 ≤ x2 ∧ x2 ≤ 2147483647) (h3 : -2147483648 ≤ x3 ∧ x3 ≤ 2147483647) (h4 : -2147483648 ≤ x4 ∧ x4 ≤ 2147483647) (h5 : -2147483648 ≤ x5 ∧ x5 ≤ 2147483647) : zE g g' o o' mX9_feed mX10_feed [zI x1, zI x2, zI x3, zI x4, zI x5] k M1 M2 := by
  have hP : jP M1 M2 := hJ.2.2.2.2.2.2.2.1
  obtain ⟨e1, e2, e3⟩ := hP
  by_cases hn : M2 1 1 + 20 ≤ 900
  · refine ⟨fun r N => r = M2 1 1 + 20 ∧ N 2 1 = M2 1 1 + 20 ∧ (∀ b : Nat, b ≠ 2 → b ≠ 3 → N b = M1 b) ∧ N 3 = app (app (app (app (app (M1 3) (M2 1 1) x1) (M2 1 1 + 4) x2) (M2 1 1 + 8) x3) (M2 1 1 + 12) x4) (M2 1 1 + 16) x5, fun r N => r = M2 1 1 + 20 ∧ N 1 1 = M2 1 1 + 20 ∧ (∀ b : Nat, b ≠ 1 → b ≠ 2 → N b = M2 b) ∧ (∀ i : Int, i ≠ 1 → N 1 i = M2 1 i) ∧ N 2 = app (app (app (app (app (M2 2) (M2 1 1) x1) (M2 1 1 + 4) x2) (M2 1 1 + 8) x3) (M2 1 1 + 12) x4) (M2 1 1 + 16) x5, zki_of rfl (Nat.le_of_ble_eq_true rfl) (SX9_feed_0 ⟨by omega, fun _ => ⟨_, c_append h1 (by omega), fun A1 a1 => ⟨_, c_append h2 (by have := a1.2.1; omega), fun A2 a2 => ⟨_, c_append h3 (by have := a1.2.1; have := a2.2.1; omega), fun A3 a3 => ⟨_, c_append h4 (by have := a1.2.1; have := a2.2.1; have := a3.2.1; omega), fun A4 a4 => ⟨_, c_append h5 (by have := a1.2.1; have := a2.2.1; have := a3.2.1; have := a4.2.1; omega), fun A5 a5 => ?_⟩⟩⟩⟩⟩, fun h => by omega⟩), zki_of rfl (Nat.le_of_ble_eq_true rfl) (SX10_feed_0 ⟨by omega, fun _ => ⟨_, c_four h1 (by omega), fun A1 a1 => ⟨_, c_four h2 (by have := a1.2.1; omega), fun A2 a2 => ⟨_, c_four h3 (by have := a1.2.1; have := a2.2.1; omega), fun A3 a3 => ⟨_, c_four h4 (by have := a1.2.1; have := a2.2.1; have := a3.2.1; omega), fun A4 a4 => ⟨_, c_four h5 (by have := a1.2.1; have := a2.2.1; have := a3.2.1; have := a4.2.1; omega), fun A5 a5 => ?_⟩⟩⟩⟩⟩, fun h => by omega⟩), fun r N1 r' N2 q q' => ?_⟩
    · obtain ⟨u1, v1, w1⟩ := a1
      obtain ⟨u2, v2, w2⟩ := a2
      obtain ⟨u3, v3, w3⟩ := a3
      obtain ⟨u4, v4, w4⟩ := a4
      obtain ⟨u5, v5, w5⟩ := a5
      rw [e1] at v1 u1
      have t2 : A1 2 1 = M2 1 1 + 4 := v1
      have t3 : A2 2 1 = M2 1 1 + 8 := by omega
      have t4 : A3 2 1 = M2 1 1 + 12 := by omega
      have t5 : A4 2 1 = M2 1 1 + 16 := by omega
      refine ⟨by omega, by omega, fun b p q => by rw [w5 b p q, w4 b p q, w3 b p q, w2 b p q, w1 b p q], ?_⟩
      rw [u5, u4, u3, u2, u1, t2, t3, t4, t5]
    · obtain ⟨u1, v1, w1, y1⟩ := a1
      obtain ⟨u2, v2, w2, y2⟩ := a2
      obtain ⟨u3, v3, w3, y3⟩ := a3
      obtain ⟨u4, v4, w4, y4⟩ := a4
      obtain ⟨u5, v5, w5, y5⟩ := a5
      have t2 : A1 1 1 = M2 1 1 + 4 := v1
      have t3 : A2 1 1 = M2 1 1 + 8 := by omega
      have t4 : A3 1 1 = M2 1 1 + 12 := by omega
      have t5 : A4 1 1 = M2 1 1 + 16 := by omega
      refine ⟨by omega, by omega, fun b p q => by rw [w5 b p q, w4 b p q, w3 b p q, w2 b p q, w1 b p q], fun i hi => by rw [y5 i hi, y4 i hi, y3 i hi, y2 i hi, y1 i hi], ?_⟩
      rw [u5, u4, u3, u2, u1, t2, t3, t4, t5]
    · obtain ⟨r1, l1, f1, b1⟩ := q
      obtain ⟨r2, l2, f2, i2, b2⟩ := q'
      refine ⟨by omega, C, R, ?_⟩
      have h0 := hJ
      obtain ⟨a0, a1, a2, a3, a4, a5, a6, a7, a8⟩ := hJ
      have n1 : ∀ b : Nat, 3 < b ∨ b = 1 → N1 b = M1 b := fun b hb => f1 b (by omega) (by omega)
      have n2 : ∀ b : Nat, 2 < b → N2 b = M2 b := fun b hb => f2 b (by omega) (by omega)
      refine h0.next hk (a1.fr (fun b p q => n1 b (by omega)) (fun b p q => n2 b (by omega))) (a2.fr (fun b p q => n1 b (by omega)) (n2 10 (by decide)) (by omega) (by omega)) (a3.fr (fun b p q => n1 b (by omega)) (n2 3 (by decide)) (n2 7 (by decide)) (n2 8 (by decide)))
        (a4.fr (fun b p q => n1 b (by omega)) (n2 10 (by decide)) (n2 12 (by decide)) (i2 28 (by decide)) (i2 29 (by decide)) (by omega) (by omega)) (a5.fr (fun b p q => n1 b (by omega)) (n2 16 (by decide)) (n2 17 (by decide)) (by omega) (by omega))
        (a6.fr (fun b p q => n1 b (by omega)) (fun b p q => n2 b (by omega)) (fun b p q => n2 b (by omega)) (n2 7 (by decide)) (n2 8 (by decide)) (i2 42 (by decide))) ⟨by omega, by omega, ?_⟩ (a8.fr (by rw [n1 1 (by decide)]) (by rw [n1 7 (by decide)]) (by rw [n1 7 (by decide)]) (i2 43 (by decide)) (i2 9 (by decide)) (i2 10 (by decide)) (i2 26 (by decide)))
      have t0 : eqt (M1 3) (M2 2) (M2 1 1) := e3
      have t5 := ((((t0.ap (x := x1)).ap (x := x2)).ap (x := x3)).ap (x := x4)).ap (x := x5)
      rw [b1, b2, l2]
      rw [show M2 1 1 + 4 + 4 = M2 1 1 + 8 by omega, show M2 1 1 + 8 + 4 = M2 1 1 + 12 by omega, show M2 1 1 + 12 + 4 = M2 1 1 + 16 by omega, show M2 1 1 + 16 + 4 = M2 1 1 + 20 by omega] at t5
      exact t5
  · exact zE_of (A := -1) hJ hk (zki_of rfl (Nat.le_of_ble_eq_true rfl) (SX9_feed_0 ⟨by omega, fun h => by omega, fun _ => ⟨rfl, fr1.rf⟩⟩)) (zki_of rfl (Nat.le_of_ble_eq_true rfl) (SX10_feed_0 ⟨by omega, fun h => by omega, fun _ => ⟨rfl, fr2.rf⟩⟩))
end QD
