section DB
variable {g g' : zG} {o o' : Bool} {M M' M1 M2 N1 N2 : zM} {k C R c d m x y lv x1 x2 x3 col : Int} {L H H' : Int → Int}
theorem c_hasIn (h : zRf M C R) (hl : ∀ c : Int, 0 ≤ c → c < C * R → M 13 c = L c ∧ -1 ≤ L c ∧ L c ≤ 96) (hd : -1 ≤ d ∧ d ≤ 96) (hx : 0 ≤ x ∧ x ≤ 96) (hcol : 0 ≤ col ∧ col ≤ 1) : zKi g (z2 o) mX10_hasIn [zA g 1, zI d, zI x, zI col] M (fun r M' => r = zb (lns L (lnf C col) d (C * R).toNat x) ∧ M' = M) := by
  have hn := geo_n h.1
  obtain ⟨g1, g2, g3, g4⟩ := h.1
  obtain ⟨n, hnn⟩ := znn (show 0 ≤ C * R by omega)
  rw [show (C * R).toNat = n by omega]
  refine zki_of rfl (Nat.le_of_ble_eq_true rfl) (SX10_hasIn_0 ?_)
  suffices hs : ∀ (j i : Nat), i + j = n → (∀ c : Int, 0 ≤ c → c < i → ¬ (L c = d ∧ lnf C col c = x)) → zT g (z2 o) mX10_hasIn (zQi (z2 o) (fun r M' => r = zb (lns L (lnf C col) d n x) ∧ M' = M)) 3 [(0, zA g 1), (1, zI d), (2, zI x), (3, zI col), (4, zI i)] [] M from hs n 0 (by omega) (fun c a b => by omega)
  intro j
  induction j with
  | zero =>
    intro i hi hno
    refine SX10_hasIn_3 (C := C) (R := R) ⟨h, by omega, by omega, fun _ => ⟨(zb_f ?_).symm, rfl⟩, fun hh => by omega⟩
    rintro ⟨c, a, b, p, q⟩; exact hno c a (by omega) ⟨p, q⟩
  | succ j ih =>
    intro i hi hno
    have l := hl i (by omega) (by omega)
    have xyz := xy h.1 (c := (i : Int)) ⟨by omega, by omega⟩
    have nx : ¬ (L i = d ∧ lnf C col i = x) → zT g (z2 o) mX10_hasIn (zQi (z2 o) (fun r M' => r = zb (lns L (lnf C col) d n x) ∧ M' = M)) 3 [(0, zA g 1), (1, zI d), (2, zI x), (3, zI col), (4, zI ((i : Int) + 1))] [] M := fun hq => ih (i + 1) (by omega) (fun c a b => by
      by_cases e : c = i
      · rw [e]; exact hq
      · exact hno c a (by omega))
    have yes : L i = d → lnf C col i = x → (1 : Int) = zb (lns L (lnf C col) d n x) := fun a b => (zb_t ⟨i, by omega, by omega, a, b⟩).symm
    have e0 : col = 0 → lnf C col i = i / C := fun e => if_pos e
    have e1 : ¬ col = 0 → lnf C col i = i % C := fun e => if_neg e
    refine SX10_hasIn_3 (C := C) (R := R) ⟨h, by omega, by omega, fun hh => by omega, fun _ => ⟨by omega, by omega, by omega, fun hh => nx (fun q => hh (by rw [l.1]; exact q.1)), fun hh => ⟨by omega, fun h0 => ⟨by omega, by omega, by omega, by omega, fun h1 => nx (fun q => h1 ?_), fun h1 => ⟨yes ?_ ?_, rfl⟩⟩, fun h0 => ⟨by omega, by omega, by omega, by omega, fun h1 => nx (fun q => h1 ?_), fun h1 => ⟨yes ?_ ?_, rfl⟩⟩⟩⟩⟩
    · rw [← e0 h0]; exact q.2
    · rw [← l.1]; exact hh
    · rw [e0 h0]; exact h1
    · rw [← e1 h0]; exact q.2
    · rw [← l.1]; exact hh
    · rw [e1 h0]; exact h1
theorem c_spanOf (h : zRf M C R) (hl : ∀ c : Int, 0 ≤ c → c < C * R → M 13 c = L c ∧ -1 ≤ L c ∧ L c ≤ 96) (hd : -1 ≤ d ∧ d ≤ 96) (hcol : 0 ≤ col ∧ col ≤ 1) : zKi g (z2 o) mX10_spanOf [zA g 1, zI d, zI col] M (fun r M' => r = cnt (lns L (lnf C col) d (C * R).toNat) 96 ∧ M' = M) := by
  have hn := geo_n h.1
  obtain ⟨g1, g2, g3, g4⟩ := h.1
  obtain ⟨K, hK⟩ : ∃ K : Nat, (K : Int) = if col = 0 then R else C := by
    by_cases e : col = 0
    · rw [if_pos e]; exact ⟨R.toNat, by omega⟩
    · rw [if_neg e]; exact ⟨C.toNat, by omega⟩
  have hK96 : K ≤ 96 := by split at hK <;> omega
  have hout : cnt (lns L (lnf C col) d (C * R).toNat) 96 = cnt (lns L (lnf C col) d (C * R).toNat) K := by
    refine cnt_out hK96 (fun i p q => ?_)
    rintro ⟨c, a, b, u, v⟩
    have xyz := xy h.1 (c := c) ⟨a, by omega⟩
    unfold lnf at v
    by_cases e : col = 0
    · rw [if_pos e] at v hK; omega
    · rw [if_neg e] at v hK; omega
  rw [hout]
  refine zki_of rfl (Nat.le_of_ble_eq_true rfl) (SX10_spanOf_0 ?_)
  refine zup (fun i => zT g (z2 o) mX10_spanOf (zQi (z2 o) (fun r M' => r = cnt (lns L (lnf C col) d (C * R).toNat) K ∧ M' = M)) 5 [(0, zA g 1), (1, zI d), (2, zI col), (3, zI (cnt (lns L (lnf C col) d (C * R).toNat) i)), (4, zI i)] [] M) K (SX10_spanOf_5 (C := C) (R := R) ⟨by omega, fun e => ?_, fun e => ?_⟩) (fun i hi ih => ?_)
  · rw [if_pos e] at hK; exact ⟨h, by omega, by omega, fun _ => ⟨rfl, rfl⟩, fun hh => by omega⟩
  · rw [if_neg e] at hK; exact ⟨h, by omega, by omega, fun _ => ⟨rfl, rfl⟩, fun hh => by omega⟩
  have nx : ∀ (r : Int) (M3 : zM), (r = zb (lns L (lnf C col) d (C * R).toNat i) ∧ M3 = M) → (r = 0 ∨ r = 1) ∧ zT g (z2 o) mX10_spanOf (zQi (z2 o) (fun r M' => r = cnt (lns L (lnf C col) d (C * R).toNat) K ∧ M' = M)) 5 [(0, zA g 1), (1, zI d), (2, zI col), (3, zI (cnt (lns L (lnf C col) d (C * R).toNat) i + r)), (4, zI ((i : Int) + 1))] [] M3 := fun r M3 hq => by
    obtain ⟨rfl, rfl⟩ := hq
    exact ⟨zb01 _, ih⟩
  refine SX10_spanOf_5 (C := C) (R := R) ⟨by omega, fun e => ?_, fun e => ?_⟩
  · rw [if_pos e] at hK; exact ⟨h, by omega, by omega, fun hh => by omega, fun _ => ⟨_, c_hasIn h hl hd (by omega) hcol, nx⟩⟩
  · rw [if_neg e] at hK; exact ⟨h, by omega, by omega, fun hh => by omega, fun _ => ⟨_, c_hasIn h hl hd (by omega) hcol, nx⟩⟩
/-- what a dune is asked for -/
noncomputable def dwh (C R : Int) (L H : Int → Int) (d w : Int) : Int := if w = 0 then fcl L d (C * R).toNat else if w = 1 then cnt (fun c => L c = d) (C * R).toNat else if w = 2 then smt (slf L H d) (C * R).toNat else if w = 3 then H (tpl L H d (C * R).toNat) else if w = 4 then tpl L H d (C * R).toNat else if w = 5 then cnt (lns L (lnf C 1) d (C * R).toNat) 96 else if w = 6 then cnt (lns L (lnf C 0) d (C * R).toNat) 96 else -1
theorem fcl_s (n : Nat) : fcl L d (n + 1) = if fcl L d n = -1 then (if L n = d then (n : Int) else -1) else fcl L d n := rfl
theorem fcl_ne (n : Nat) (h0 : 0 ≤ c) (h1 : c < n) (h : L c = d) : fcl L d n ≠ -1 := by
  induction n with
  | zero => omega
  | succ n ih =>
    unfold fcl
    by_cases e : c = n
    · rw [if_pos (show L n = d by rw [← e]; exact h)]; split <;> omega
    · rw [if_neg (ih (by omega))]; exact ih (by omega)
theorem c_dune37 (h : zRf M C R) (hl : ∀ c : Int, 0 ≤ c → c < C * R → (M 13 c = L c ∧ -1 ≤ L c ∧ L c ≤ 96) ∧ M 10 c = H c ∧ (0 ≤ H c ∧ H c ≤ 1000000)) (hd : 0 ≤ d ∧ d ≤ 96) (hw : -2147483648 ≤ x ∧ x ≤ 2147483647) (hne : tpl L H d (C * R).toNat ≠ -1) {q0 : Int → zM → Prop} (hq0 : q0 (dwh C R L H d x) M) : zT g (z2 o) mX10_dune (zQi (z2 o) q0) 37 [(0, zA g 1), (2, zI d), (3, zI x), (4, zI 0), (5, zI 0), (6, zI (-1)), (7, zI (-1)), (8, zI 0)] [] M := by
  have hn := geo_n h.1
  obtain ⟨n, hnn⟩ := znn (show 0 ≤ C * R by omega)
  have en : (C * R).toNat = n := by omega
  have hl' : ∀ c : Int, 0 ≤ c → c < C * R → M 13 c = L c ∧ -1 ≤ L c ∧ L c ≤ 96 := fun c a b => (hl c a b).1
  refine zup (fun i => zT g (z2 o) mX10_dune (zQi (z2 o) q0) 37 [(0, zA g 1), (2, zI d), (3, zI x), (4, zI (cnt (fun c => L c = d) i)), (5, zI (smt (slf L H d) i)), (6, zI (fcl L d i)), (7, zI (tpl L H d i)), (8, zI i)] [] M) n ?_ (fun i hi ih => ?_)
  · have t := tpl_in (L := L) (H := H) (d := d) n
    have fin : ∀ (r : Int) (M3 : zM), r = dwh C R L H d x ∧ M3 = M → q0 r M3 := fun r M3 z => by rw [z.1, z.2]; exact hq0
    rw [en] at hne
    unfold dwh at fin; rw [en] at fin
    refine SX10_dune_37 (C := C) (R := R) ⟨h, by omega, by omega, fun _ => ⟨by omega, fun e => fin _ _ ⟨?_, rfl⟩, fun e => fin _ _ ⟨?_, rfl⟩, fun e => fin _ _ ⟨?_, rfl⟩, fun e => ⟨by omega, fin _ _ ⟨?_, rfl⟩⟩, fun e => fin _ _ ⟨?_, rfl⟩, fun e => ⟨_, c_spanOf h hl' (by omega) (by omega), fun r M3 hq => fin _ _ ⟨?_, hq.2⟩⟩, fun e => ⟨_, c_spanOf h hl' (by omega) (by omega), fun r M3 hq => fin _ _ ⟨?_, hq.2⟩⟩, fun e => fin _ _ ⟨?_, rfl⟩⟩, fun hh => by omega⟩
    · subst e; rfl
    · subst e; rfl
    · subst e; rfl
    · subst e; exact (hl _ (by omega) (by omega)).2.1
    · subst e; rfl
    · subst e; rw [hq.1, en]; rfl
    · subst e; rw [hq.1, en]; rfl
    · rw [if_neg (by omega), if_neg (by omega), if_neg (by omega), if_neg (by omega), if_neg (by omega), if_neg (by omega), if_neg (by omega)]
  obtain ⟨l1, l2, l3⟩ := hl i (by omega) (by omega)
  have t := tpl_in (L := L) (H := H) (d := d) i
  have f := fcl_in (L := L) (d := d) i
  have tf : tpl L H d i = -1 ↔ fcl L d i = -1 := by
    have : ∀ j : Nat, (tpl L H d j = -1 ↔ fcl L d j = -1) := fun j => by
      induction j with
      | zero => exact ⟨fun _ => rfl, fun _ => rfl⟩
      | succ j ihj =>
        have tj := tpl_in (L := L) (H := H) (d := d) j
        have fj := fcl_in (L := L) (d := d) j
        by_cases q : L j = d
        · have a := tpl_ne (L := L) (H := H) (d := d) (n := j + 1) (c := j) (by omega) (by omega) q
          have b := fcl_ne (L := L) (d := d) (c := j) (j + 1) (by omega) (by omega) q
          exact ⟨fun e => absurd e a, fun e => absurd e b⟩
        · rw [tpl_f (fun e => q e.1), ihj]
          rw [fcl_s, if_neg q]
          by_cases u : fcl L d j = -1
          · rw [if_pos u]; exact ⟨fun _ => rfl, fun _ => u⟩
          · rw [if_neg u]
    exact this i
  have tH : tpl L H d i ≠ -1 → M 10 (tpl L H d i) = H (tpl L H d i) ∧ 0 ≤ H (tpl L H d i) ∧ H (tpl L H d i) ≤ 1000000 := fun e => (hl _ (by omega) (by omega)).2
  by_cases q : L i = d
  · have e13 : M 13 i = d := l1.1.trans q
    rw [cnt_take (P := fun c => L c = d) (k := i) q, smt_take (f := slf L H d) (k := i) (v := M 10 i) (by rw [l2]; exact if_pos q)] at ih
    by_cases u : tpl L H d i = -1
    · have u' := tf.mp u
      have ef : fcl L d (i + 1) = i := by unfold fcl; rw [if_pos u', if_pos q]
      rw [tpl_t ⟨q, Or.inl u⟩, ef] at ih
      exact SX10_dune_37 (C := C) (R := R) ⟨h, by omega, by omega, fun hh => by omega, fun _ => ⟨by omega, by omega, by omega, fun _ => ⟨by omega, fun e => absurd u' e, fun _ => ⟨by omega, fun _ => ⟨by omega, ih⟩, fun e => absurd u e⟩⟩, fun e => absurd e13 e⟩⟩
    · have u' : fcl L d i ≠ -1 := fun e => u (tf.mpr e)
      have th := tH u
      have ef : fcl L d (i + 1) = fcl L d i := by rw [fcl_s, if_neg u']
      rw [ef] at ih
      refine SX10_dune_37 (C := C) (R := R) ⟨h, by omega, by omega, fun hh => by omega, fun _ => ⟨by omega, by omega, by omega, fun _ => ⟨by omega, fun _ => ⟨by omega, fun e => absurd e u, fun _ => ⟨by omega, by omega, by omega, by omega, fun e => ?_, fun e => ?_⟩⟩, fun e => absurd e u'⟩, fun e => absurd e13 e⟩⟩
      · rw [tpl_f (fun z => by rcases z.2 with z | z <;> omega)] at ih; exact ih
      · rw [tpl_t ⟨q, Or.inr (by omega)⟩] at ih; exact ih
  · have e13 : ¬ M 13 i = d := fun e => q (l1.1.symm.trans e)
    have ef : fcl L d (i + 1) = fcl L d i := by
      rw [fcl_s, if_neg q]
      by_cases u : fcl L d i = -1
      · rw [if_pos u, u]
      · rw [if_neg u]
    rw [cnt_skip (P := fun c => L c = d) (k := i) q, smt_skip (f := slf L H d) (k := i) (if_neg q), tpl_f (fun e => q e.1), ef] at ih
    exact SX10_dune_37 (C := C) (R := R) ⟨h, by omega, by omega, fun hh => by omega, fun _ => ⟨by omega, by omega, by omega, fun e => absurd e e13, fun _ => ih⟩⟩
theorem p_dune (hJ : Jt k C R M1 M2) (hk : k < 1000) (h1 : -2147483648 ≤ x1 ∧ x1 ≤ 2147483647) (h2 : -2147483648 ≤ x2 ∧ x2 ≤ 2147483647) (h3 : -2147483648 ≤ x3 ∧ x3 ≤ 2147483647) : zE g g' o o' mX9_dune mX10_dune [zI x1, zI x2, zI x3] k M1 M2 := by
  obtain ⟨hL, hR⟩ := hJ.lr
  have hn := geo_n hL.1
  have dd := dn_nn (H := M2 10) (lv := x1) hL.1
  by_cases hx : 1 ≤ x1
  · by_cases hd : 0 ≤ x2 ∧ x2 < (dn C R (M2 10) x1).2
    · obtain ⟨c0, hc0, ec0⟩ := dn_ex hL.1 hd.1 hd.2
      have hlab : ∀ c : Int, 0 ≤ c → c < C * R → -1 ≤ (dn C R (M2 10) x1).1 c ∧ (dn C R (M2 10) x1).1 c ≤ 96 := fun c a b => by
        rcases dn_lab (H := M2 10) (lv := x1) hL.1 c with e | e <;> omega
      have hne : tpl (dn C R (M2 10) x1).1 (M2 10) x2 (C * R).toNat ≠ -1 := tpl_ne hc0.1 (by omega) ec0
      have hok : ∀ c : Int, 0 ≤ c → c < C * R → 0 ≤ M2 10 c ∧ M2 10 c ≤ 1000000 := fun c a b => hJ.ok.1 c a (by omega)
      refine zE_of (A := dwh C R (dn C R (M2 10) x1).1 (M2 10) x2 x3) hJ hk (zki_of rfl (Nat.le_of_ble_eq_true rfl) (SX9_dune_0 ⟨h1, fun h => by omega, fun _ => ⟨h3, fun h => ⟨?_, fr1.rf⟩, fun hx3 => ⟨fun hx6 => ⟨_, hJ.jl fr1.rf h1, fun M5 hq => ?_⟩, fun h => ⟨?_, fr1.rf⟩⟩⟩⟩)) (zki_of rfl (Nat.le_of_ble_eq_true rfl) (SX10_dune_0 ⟨h1, fun h => by omega, fun _ => ⟨_, hJ.dnow fr2.rf h1, fun r M4 hq => ⟨h2, by omega, fun _ => ?_, fun h => by omega⟩⟩⟩))
      · unfold dwh; repeat rw [if_neg (by omega)]
      · have f5 : fr1 M1 M5 := hq.2.fr1 rfl
        have hL5 : zLand M5 C R := f5.Ld hL
        have e25 : M5 25 = M1 25 := f5.1 25 rfl
        have lb : ∀ c : Int, 0 ≤ c → c < C * R → M5 (127 + 3) c = (dn C R (M2 10) x1).1 c ∧ -1 ≤ (dn C R (M2 10) x1).1 c ∧ (dn C R (M2 10) x1).1 c ≤ 96 := fun c a b => ⟨hq.1.1 c a b, hlab c a b⟩
        have lb2 : ∀ c : Int, 0 ≤ c → c < C * R → M5 25 c = M2 10 c := fun c a b => by rw [e25]; exact hJ.eh c a (by omega)
        have ty := tpl_in (L := (dn C R (M2 10) x1).1) (H := M2 10) (d := x2) (C * R).toNat
        have pk : zKi g (z1 o) mX9_peakOf [zA g 1, zI x2] M5 (fun r M' => r = tpl (dn C R (M2 10) x1).1 (M2 10) x2 (C * R).toNat ∧ M' = M5) := c_peakOf hL5 (fun c a b => ⟨lb c a b, lb2 c a b, hok c a b, fun e => by
          rcases dn_lab (H := M2 10) (lv := x1) hL.1 c with z | z <;> omega⟩) (by omega) hne
        have gl := hL5.2.2.2.2.2.2.2.2
        have ll : ∀ (w : Int) (ln : Int → Int) (hh : Nat), zh (z1 o) hh = (1, 96) → hh ≠ 0 → hh ≠ 149 → (∀ c : Int, 0 ≤ c → c < C * R → M5 hh c = ln c ∧ 0 ≤ ln c ∧ ln c < 96) → zKi g (z1 o) mX9_linesOf [zA g 1, zI x2, zA g hh] M5 (fun r M' => r = cnt (lns (dn C R (M2 10) x1).1 ln x2 (C * R).toNat) 96 ∧ frl [149] M5 M') := fun w ln hh a b c hln => c_linesOf hL5 a b c (fun e p q => ⟨lb e p q, hln e p q⟩) (by omega)
        refine ⟨h2, fun h => by omega, fun _ => ⟨by rw [hq.1.2]; omega, fun _ => ⟨fun e => ⟨_, c_firstCell (Or.inl rfl) hL5 lb (by omega), fun r M6 h => ⟨?_, by rw [h.2]; exact f5⟩⟩, fun e => ⟨_, c_size (Or.inl rfl) hL5 lb (by omega), fun r M6 h => ⟨?_, by rw [h.2]; exact f5⟩⟩, fun e => ⟨_, c_slabsOf hL5 (fun c a b => ⟨lb c a b, lb2 c a b⟩) (by omega), fun r M6 h => ⟨?_, by rw [h.2]; exact f5⟩⟩, fun e => ⟨_, pk, fun r M6 h => ⟨by rw [h.1]; omega, ?_, by rw [h.2]; exact f5⟩⟩, fun e => ⟨_, pk, fun r M6 h => ⟨?_, by rw [h.2]; exact f5⟩⟩, fun e => ⟨_, ll 5 (lnf C 1) 15 rfl (by decide) (by decide) ?_, fun r M6 h => ⟨?_, f5.trans (h.2.fr1 rfl)⟩⟩, fun e => ⟨_, ll 6 (lnf C 0) 16 rfl (by decide) (by decide) ?_, fun r M6 h => ⟨?_, f5.trans (h.2.fr1 rfl)⟩⟩⟩, fun h => by rw [hq.1.2] at h; omega⟩⟩
        · rw [h.1, if_neg (by omega)]; subst e; rfl
        · rw [h.1]; subst e; rfl
        · rw [h.1]; subst e; rfl
        · rw [h.2, h.1, lb2 _ (by omega) (by omega)]; subst e; rfl
        · rw [h.1]; subst e; rfl
        · intro c a b
          have z := xy hL.1 (c := c) ⟨a, b⟩
          have gg := hL.1
          obtain ⟨g1, g2, g3, g4⟩ := gg
          exact ⟨(gl c a b).1, by show 0 ≤ c % C; omega, by show c % C < 96; omega⟩
        · rw [h.1]; subst e; rfl
        · intro c a b
          have z := xy hL.1 (c := c) ⟨a, b⟩
          have gg := hL.1
          obtain ⟨g1, g2, g3, g4⟩ := gg
          exact ⟨(gl c a b).2.1, by show 0 ≤ c / C; omega, by show c / C < 96; omega⟩
        · have e6 : x3 = 6 := by omega
          rw [h.1]; subst e6; rfl
      · unfold dwh; repeat rw [if_neg (by omega)]
      · have f4 : fr2 M2 M4 := hq.2.2.fr
        have e10 : M4 10 = M2 10 := f4.1 10 rfl
        exact c_dune37 (L := (dn C R (M2 10) x1).1) (H := M2 10) (f4.Ld hR) (fun c a b => ⟨⟨hq.2.1 c a b, hlab c a b⟩, by rw [e10], hok c a b⟩) (by omega) h3 hne ⟨rfl, f4⟩
    · refine zE_of (A := -1) hJ hk (zki_of rfl (Nat.le_of_ble_eq_true rfl) (SX9_dune_0 ⟨h1, fun h => by omega, fun _ => ⟨h3, fun h => ⟨rfl, fr1.rf⟩, fun hx3 => ⟨fun hx6 => ⟨_, hJ.jl fr1.rf h1, fun M5 hq => ⟨h2, fun _ => ⟨rfl, hq.2.fr1 rfl⟩, fun h => ⟨by rw [hq.1.2]; omega, fun h' => by rw [hq.1.2] at h'; omega, fun _ => ⟨rfl, hq.2.fr1 rfl⟩⟩⟩⟩, fun h => ⟨rfl, fr1.rf⟩⟩⟩⟩)) (zki_of rfl (Nat.le_of_ble_eq_true rfl) (SX10_dune_0 ⟨h1, fun h => by omega, fun _ => ⟨_, hJ.dnow fr2.rf h1, fun r M4 hq => ⟨h2, by omega, fun h => by omega, fun h => ⟨rfl, hq.2.2.fr⟩⟩⟩⟩))
  · exact zE_of (A := -1) hJ hk (zki_of rfl (Nat.le_of_ble_eq_true rfl) (SX9_dune_0 ⟨h1, fun _ => ⟨rfl, fr1.rf⟩, fun h => by omega⟩)) (zki_of rfl (Nat.le_of_ble_eq_true rfl) (SX10_dune_0 ⟨h1, fun _ => ⟨rfl, fr2.rf⟩, fun h => by omega⟩))
end DB
