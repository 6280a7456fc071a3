section PN
variable {g : zG} {o : Bool} {M N N0 M' X X' Y Z : zM} {lo hi k w L v C R : Int} {b : Int → Int} {pos : Nat → Int} {T : Nat} {s s' : Rs} {K Pl V : Int → Int}
theorem smt_one {p q : Int → Int} {f : Int} (hf : 0 ≤ f ∧ f < 96) (h : ∀ i, i ≠ f → p i = q i) : smt p 96 = smt q 96 + (p f - q f) := by
  have := smt_two (p := p) (q := q) (n := 96) (f := f) (t := if f = 0 then 1 else 0) (by omega) (by split <;> omega) (by split <;> omega) (fun i a _ => h i a)
  have e := h (if f = 0 then 1 else 0) (by split <;> omega)
  omega
theorem RLk.ft (h : RLk N0 pos T s M) (h1 : s.2.1 ≠ 0) (e : s'.2 = s.2) : RLk N0 pos T s' M := by
  obtain ⟨a, c⟩ := h
  refine ⟨a, ?_⟩
  rw [e]
  rcases c with c | c
  · exact absurd c.1 h1
  · exact Or.inr c
theorem dq_heap {i : Int} (h : DQ Y M) (hi : 0 ≤ i ∧ i < 96) (hv : 1 ≤ v ∧ v ≤ 50) (h20 : Y 8 5 < 20) (hp : pF (zu M 1 20 (M 1 20 + 1)) N) : DQ (zu (zu (pst Y s) 10 i (Y 10 i + v)) 8 5 (Y 8 5 + 1)) (zu N 6 (96 + i) (N 6 (96 + i) + v)) := by
  obtain ⟨h1, h2, h3, h4, h5⟩ := h
  have no : ∀ c : Nat, c ≠ 1 → N c = M c := fun c hc => by rw [hp.1 c hc, zu_other hc]
  have x8 : ∀ j : Int, j ≠ 5 → zu (zu (pst Y s) 10 i (Y 10 i + v)) 8 5 (Y 8 5 + 1) 8 j = Y 8 j := fun j hj => by rw [zu_row, if_neg hj, zu_other (by decide), pst_o (by decide)]
  have xo : ∀ c : Nat, c ≠ 7 → c ≠ 8 → c ≠ 10 → zu (zu (pst Y s) 10 i (Y 10 i + v)) 8 5 (Y 8 5 + 1) c = Y c := fun c c7 c8 c10 => by rw [zu_other c8, zu_other c10, pst_o c7]
  have x10 : ∀ j : Int, zu (zu (pst Y s) 10 i (Y 10 i + v)) 8 5 (Y 8 5 + 1) 10 j = if j = i then Y 10 i + v else Y 10 j := fun j => by rw [zu_other (by decide), zu_row, pst_o (by decide)]
  refine ⟨h1.of (fun e he => ?_) (fun j a c => by rw [zu_other (by decide), no 3 (by decide)]), h2.of (x8 6 (by decide)) (xo 12 (by decide) (by decide) (by decide)) (xo 13 (by decide) (by decide) (by decide)) (by rw [zu_other (by decide), no 4 (by decide)]) (by rw [zu_other (by decide), no 5 (by decide)]), fun c c0 c1 => ?_, ⟨?_, ?_, ?_⟩, h5.of (x8 7 (by decide)) (by rw [zu_other (by decide), no 9 (by decide)])⟩
  · have r := T10_r e he
    rcases r.1 with q | q
    · rw [q]; exact x8 _ (fun z => r.2.2.1 ⟨q, z⟩)
    · rw [q]; rw [xo 9 (by decide) (by decide) (by decide)]
  · have hc := h3 c c0 c1
    rw [x10, zu_row, zu_other (by decide), xo 11 (by decide) (by decide) (by decide), no 6 (by decide), no 7 (by decide)]
    by_cases q : c = i
    · subst q
      rw [if_pos rfl, if_pos rfl, hc.1]; exact ⟨rfl, by omega, hc.2.2⟩
    · rw [if_neg (by omega), if_neg q]; exact hc
  · rw [zu_at, zu_other (by decide), hp.f20, zu_at, h4.1]
  · rw [zu_at]; have := h4.2.1; omega
  · rw [zu_at]
    have e : zu (zu (pst Y s) 10 i (Y 10 i + v)) 8 5 (Y 8 5 + 1) 10 = fun j => if j = i then Y 10 i + v else Y 10 j := funext x10
    rw [e, smt_one (q := Y 10) hi (fun j hj => if_neg hj)]
    show smt (Y 10) 96 + ((if i = i then Y 10 i + v else Y 10 i) - Y 10 i) ≤ _
    rw [if_pos rfl]
    have := h4.2.2
    omega
theorem r_heap25 {q : zM → Prop} (hT : TS b L N0 pos T) (hB : RBx b L M) (hR : RLk N0 pos T s M) (hC : M 3 10 = C) (hRr : M 3 11 = R) (hG : Geo C R) (hK : rdK (N0 4) (N0 6) s) (W : ∀ M13 : zM, RLk N0 pos T (nmS (N0 4) (N0 5) (N0 6) 1 50 (nmS (N0 4) (N0 5) (N0 6) 0 (R - 1) (nmS (N0 4) (N0 5) (N0 6) 0 (C - 1) s))) M13 → pF (zu M 1 20 (M 1 20 + 1)) M13 → ((nmS (N0 4) (N0 5) (N0 6) 1 50 (nmS (N0 4) (N0 5) (N0 6) 0 (R - 1) (nmS (N0 4) (N0 5) (N0 6) 0 (C - 1) s))).2.1 ≠ 0 → q M13) ∧ ((nmS (N0 4) (N0 5) (N0 6) 1 50 (nmS (N0 4) (N0 5) (N0 6) 0 (R - 1) (nmS (N0 4) (N0 5) (N0 6) 0 (C - 1) s))).2.1 = 0 → ∀ i v : Int, i = nmV (N0 4) (N0 6) 0 (R - 1) (nmS (N0 4) (N0 5) (N0 6) 0 (C - 1) s) * C + nmV (N0 4) (N0 6) 0 (C - 1) s → v = nmV (N0 4) (N0 6) 1 50 (nmS (N0 4) (N0 5) (N0 6) 0 (R - 1) (nmS (N0 4) (N0 5) (N0 6) 0 (C - 1) s)) → q (zu M13 6 (96 + i) (M13 6 (96 + i) + v)))) : zT g (z2 o) mX10_heapLine (zQv (z2 o) q) 25 [(0, zA g 1)] [] M := by
  obtain ⟨g1, g2, g3, g4⟩ := id hG
  have hn := geo_n hG
  have e3 : (zu M 1 20 (M 1 20 + 1)) 3 10 = C := by rw [zu_other (by decide)]; exact hC
  refine SX10_heapLine_25 ?_
  rw [e3]
  refine ⟨_, r_number hT (hB.lF (lF.put (by omega))) (hR.row (Or.inr (Or.inl rfl))) (by decide) (by omega), fun r2 M3 h3 => ?_⟩
  have m3 : M3 3 = M 3 := by rw [h3.2.2.1 3 (by decide), zu_other (by decide)]
  have hB3 := (hB.lF (lF.put (c := 1) (i := 20) (v := M 1 20 + 1) (by omega))).pF h3.2.2
  rw [m3, hRr]
  refine ⟨_, r_number hT hB3 h3.1 (by decide) (by omega), fun r7 M8 h8 => ⟨_, r_number hT (hB3.pF h8.2.2) h8.1 (by decide) (by decide), fun r12 M13 h13 => ?_⟩⟩
  have p := (h3.2.2.trans h8.2.2).trans h13.2.2
  have w := W M13 h13.1 p
  have wz := h13.1.wz
  have m13 : M13 3 10 = C := by rw [p.1 3 (by decide)]; exact e3
  refine ⟨h13.1.1, fun z => w.1 (fun y => z (wz.1.mp y)), fun z => ?_⟩
  have z4 := wz.1.mpr z
  have z3 := nmS_0 z4
  have z2' := nmS_0 z3
  have v1 := nmV_in (lo := 0) (hi := C - 1) hK (by omega)
  have v2 := nmV_in (lo := 0) (hi := R - 1) (rdK.nm (Pl := N0 5) (lo := 0) (hi := C - 1) hK) (by omega)
  rw [m13, h3.2.1 z2', h8.2.1 z3, h13.2.1 z4]
  have ci := cell_in (x := nmV (N0 4) (N0 6) 0 (C - 1) s) (y := nmV (N0 4) (N0 6) 0 (R - 1) (nmS (N0 4) (N0 5) (N0 6) 0 (C - 1) s)) (C := C) (R := R) (by omega) (by omega)
  refine ⟨by omega, ?_⟩
  have := w.2 z4 _ _ rfl rfl
  rw [Int.mul_comm, ← Int.add_assoc] at this
  exact this
theorem r_heap (H : LB N0 pos T b L X M) : zKv g (z2 o) mX10_heapLine [zA g 1] M (fun N => (M 1 20 = 20 → RLk N0 pos T (rfS (N0 5) 2 (gst X).1 (gst X)) N ∧ lF M N ∧ N 1 19 = M 1 19) ∧ (M 1 20 ≠ 20 → LPo N0 pos T M (heaF (Y0 X 2)) N)) := by
  obtain ⟨hT, hB, hR, h0, hk1, ⟨x4, x5, x6⟩, hD, hO⟩ := H
  have hw := hR.wz
  have m7 := hw.1.mp h0
  have t0 := hD.1 (8, 0, 10, 3, 12) (by decide)
  have t1 := hD.1 (8, 1, 11, 1, 8) (by decide)
  change M 3 10 = X 8 0 ∧ 3 ≤ X 8 0 ∧ X 8 0 ≤ 12 at t0
  change M 3 11 = X 8 1 ∧ 1 ≤ X 8 1 ∧ X 8 1 ≤ 8 at t1
  have hG : Geo (X 8 0) (X 8 1) := ⟨t0.2.1, t0.2.2, t1.2.1, t1.2.2⟩
  have hn := geo_n hG
  have h20 := hD.2.2.2.1
  have hO' : rdK (N0 4) (N0 6) (gst X) := by rw [← x4, ← x6]; exact hO
  have nf : ∀ lo hi : Int, ∀ s : Rs, s.2.1 ≠ 0 → nmS (N0 4) (N0 5) (N0 6) lo hi s = s := fun lo hi s hs => by unfold nmS; rw [if_neg hs]
  refine zkv_of rfl (Nat.le_of_ble_eq_true rfl) (SX10_heapLine_0 ⟨by have := h20.1; have := h20.2.1; omega, fun z => ⟨hR.1, fun y => absurd m7 y, fun _ => ⟨_, r_goOn hT hB hR h0 (by omega), fun M8 h8 => ?_⟩⟩, fun z => ⟨hR.1, fun N14 e => ?_⟩⟩)
  · have m3 : M8 3 = M 3 := h8.2.1 3 (by decide)
    refine r_heap25 (C := X 8 0) (R := X 8 1) hT (hB.pF h8.2) h8.1 (by rw [m3]; exact t0.1) (by rw [m3]; exact t1.1) hG (rdK.ad hO') (fun M13 u1 u2 => ?_)
    have lf : lF M M13 := (h8.2.lF.trans (lF.put (c := 1) (i := 20) (v := M8 1 20 + 1) (by omega))).trans u2.lF
    have f19 : M13 1 19 = M 1 19 := by rw [u2.f19, zu_row, if_neg (by decide), h8.2.f19]
    have Y4 : Y0 X 2 4 = N0 4 ∧ Y0 X 2 5 = N0 5 ∧ Y0 X 2 6 = N0 6 := ⟨(Y0_o (by decide) (by decide)).trans x4, (Y0_o (by decide) (by decide)).trans x5, (Y0_o (by decide) (by decide)).trans x6⟩
    have y0 : Y0 X 2 8 0 = X 8 0 := Y0_8 (by decide)
    have y1 : Y0 X 2 8 1 = X 8 1 := Y0_8 (by decide)
    have yg : gst (Y0 X 2) = adS (N0 4) (gst X) := by rw [Y0_g, x4]
    have eN : nmF 1 50 (nmF 0 (X 8 1 - 1) (nmF 0 (X 8 0 - 1) (Y0 X 2))) = pst (Y0 X 2) (nmS (N0 4) (N0 5) (N0 6) 1 50 (nmS (N0 4) (N0 5) (N0 6) 0 (X 8 1 - 1) (nmS (N0 4) (N0 5) (N0 6) 0 (X 8 0 - 1) (adS (N0 4) (gst X))))) := by
      unfold nmF
      simp only [pst_o (b := 4) (by decide), pst_o (b := 5) (by decide), pst_o (b := 6) (by decide), gst_pst, pst_pst, Y4.1, Y4.2.1, Y4.2.2, yg]
    have eX : xyI (Y0 X 2) = nmV (N0 4) (N0 6) 0 (X 8 1 - 1) (nmS (N0 4) (N0 5) (N0 6) 0 (X 8 0 - 1) (adS (N0 4) (gst X))) * X 8 0 + nmV (N0 4) (N0 6) 0 (X 8 0 - 1) (adS (N0 4) (gst X)) := by
      unfold xyI; rw [nmF_g, Y4.1, Y4.2.1, Y4.2.2, y0, y1, yg]
    have eV : nmV (Y0 X 2 4) (Y0 X 2 6) 1 50 (gst (nmF 0 (Y0 X 2 8 1 - 1) (nmF 0 (Y0 X 2 8 0 - 1) (Y0 X 2)))) = nmV (N0 4) (N0 6) 1 50 (nmS (N0 4) (N0 5) (N0 6) 0 (X 8 1 - 1) (nmS (N0 4) (N0 5) (N0 6) 0 (X 8 0 - 1) (adS (N0 4) (gst X)))) := by
      rw [nmF_g, nmF_g, nmF_o (by decide), nmF_o (by decide), nmF_o (by decide), Y4.1, Y4.2.1, Y4.2.2, y0, y1, yg]
    have hr : rdO (Y0 X 2) := (rdO_pst.mpr (rdK.ad hO)).zu (by decide) (by decide) (by decide)
    refine ⟨fun y => ⟨fun q => absurd q z, fun _ => ?_⟩, fun y i v ei ev => ⟨fun q => absurd q z, fun _ => ?_⟩⟩
    · have e : heaF (Y0 X 2) = pst (Y0 X 2) (nmS (N0 4) (N0 5) (N0 6) 1 50 (nmS (N0 4) (N0 5) (N0 6) 0 (X 8 1 - 1) (nmS (N0 4) (N0 5) (N0 6) 0 (X 8 0 - 1) (adS (N0 4) (gst X))))) := by
        unfold heaF; rw [y0, y1, eN, if_neg (by rw [pst_7.2.1]; exact y)]
      rw [e]
      exact ⟨by rw [gst_pst]; exact u1, fun q => by rw [gst_pst] at q; exact absurd q y, lf, f19⟩
    · have e : heaF (Y0 X 2) = zu (zu (pst (Y0 X 2) (nmS (N0 4) (N0 5) (N0 6) 1 50 (nmS (N0 4) (N0 5) (N0 6) 0 (X 8 1 - 1) (nmS (N0 4) (N0 5) (N0 6) 0 (X 8 0 - 1) (adS (N0 4) (gst X)))))) 10 i (Y0 X 2 10 i + v)) 8 5 (Y0 X 2 8 5 + 1) := by
        unfold heaF; rw [eV, y0, y1, eN, if_pos (by rw [pst_7.2.1]; exact y), eX, ← ei, ← ev]
      have v1 := nmV_in (lo := 0) (hi := X 8 0 - 1) (rdK.ad hO') (by omega)
      have v2 := nmV_in (lo := 0) (hi := X 8 1 - 1) (rdK.nm (Pl := N0 5) (lo := 0) (hi := X 8 0 - 1) (rdK.ad hO')) (by omega)
      have v3 := nmV_in (lo := 1) (hi := 50) (rdK.nm (Pl := N0 5) (lo := 0) (hi := X 8 1 - 1) (rdK.nm (Pl := N0 5) (lo := 0) (hi := X 8 0 - 1) (rdK.ad hO'))) (by decide)
      have ci := cell_in (x := nmV (N0 4) (N0 6) 0 (X 8 0 - 1) (adS (N0 4) (gst X))) (y := nmV (N0 4) (N0 6) 0 (X 8 1 - 1) (nmS (N0 4) (N0 5) (N0 6) 0 (X 8 0 - 1) (adS (N0 4) (gst X)))) (C := X 8 0) (R := X 8 1) (by omega) (by omega)
      rw [Int.mul_comm] at ci
      rw [e]
      refine ⟨?_, fun _ => ?_, lf.trans (lF.put (by omega)), by rw [zu_other (by decide)]; exact f19⟩
      · rw [gst_zu (by decide), gst_zu (by decide), gst_pst]; exact u1.row (Or.inl (by decide))
      · exact dq_heap (hD.up23 (Or.inl rfl) h8.2) (by omega) (by omega) (by rw [Y0_8 (by decide), ← h20.1]; have := h20.2.1; have := h20.1; omega) u2
  · subst e
    have r := r_wr (k := 2) hR (by decide)
    rw [if_neg (by omega)] at r
    have n7 := r.wz
    have rs : (rfS (N0 5) 2 (gst X).1 (gst X)).2.1 = 2 := by unfold rfS; rw [if_pos h0]
    have rne : (rfS (N0 5) 2 (gst X).1 (gst X)).2.1 ≠ 0 := by rw [rs]; decide
    have m3 : wrM 2 M 3 = M 3 := wr_pF.1 3 (by decide)
    refine ⟨r.1, fun _ => r_heap25 (C := X 8 0) (R := X 8 1) hT (hB.pF wr_pF) r (by rw [m3]; exact t0.1) (by rw [m3]; exact t1.1) hG (rdK.rf hO' (by decide)) (fun M13 u1 u2 => ?_), fun y => absurd (n7.1.mpr y) rne⟩
    rw [nf _ _ _ rne, nf _ _ _ rne, nf _ _ _ rne] at u1 ⊢
    have lf : lF M M13 := (wr_pF.lF.trans (lF.put (c := 1) (i := 20) (v := wrM 2 M 1 20 + 1) (by omega))).trans u2.lF
    have f19 : M13 1 19 = M 1 19 := by rw [u2.f19, zu_row, if_neg (by decide), wr_pF.f19]
    exact ⟨fun _ => ⟨fun _ => ⟨u1, lf, f19⟩, fun q => absurd z q⟩, fun y => absurd y rne⟩
end PN
