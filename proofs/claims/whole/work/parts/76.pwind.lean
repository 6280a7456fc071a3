section PO
variable {g : zG} {o : Bool} {M N N0 M' X X' Y Z : zM} {lo hi k w L v C R n : Int} {b : Int → Int} {pos : Nat → Int} {T : Nat} {s s' : Rs} {K Pl V : Int → Int}
theorem dq_grass {i : Int} (h : DQ Y M) : DQ (zu (pst Y s) 11 i 1) (zu M 7 (96 + i) 1) := by
  obtain ⟨h1, h2, h3, h4, h5⟩ := h.ps (s := s)
  have xo : ∀ c : Nat, c ≠ 11 → zu (pst Y s) 11 i 1 c = pst Y s c := fun c hc => zu_other hc
  refine ⟨h1.of (fun e he => ?_) (fun j a c => by rw [zu_other (by decide)]), h2.of (by rw [xo 8 (by decide)]) (xo 12 (by decide)) (xo 13 (by decide)) (zu_other (by decide)) (zu_other (by decide)), fun c c0 c1 => ?_, h4.of (by rw [xo 8 (by decide)]) (xo 10 (by decide)) (by rw [zu_other (by decide)]), h5.of (by rw [xo 8 (by decide)]) (zu_other (by decide))⟩
  · have r := T10_r e he
    rw [xo _ (by omega)]
  · have hc := h3 c c0 c1
    rw [zu_other (by decide), xo 10 (by decide), zu_row, zu_row]
    by_cases q : c = i
    · subst q
      rw [if_pos rfl, if_pos rfl]; exact ⟨hc.1, hc.2.1, rfl, by decide, by decide⟩
    · rw [if_neg (by omega), if_neg q]; exact hc
theorem r_grass (H : LB N0 pos T b L X M) : zKv g (z2 o) mX10_grassLine [zA g 1] M (fun N => LPo N0 pos T M (graF (Y0 X 3)) N) := by
  obtain ⟨hT, hB, hR, h0, hk1, ⟨x4, x5, x6⟩, hD, hO⟩ := H
  have t0 := hD.1 (8, 0, 10, 3, 12) (by decide)
  have t1 := hD.1 (8, 1, 11, 1, 8) (by decide)
  change M 3 10 = X 8 0 ∧ 3 ≤ X 8 0 ∧ X 8 0 ≤ 12 at t0
  change M 3 11 = X 8 1 ∧ 1 ≤ X 8 1 ∧ X 8 1 ≤ 8 at t1
  have hG : Geo (X 8 0) (X 8 1) := ⟨t0.2.1, t0.2.2, t1.2.1, t1.2.2⟩
  have hn := geo_n hG
  have hO' : rdK (N0 4) (N0 6) (gst X) := by rw [← x4, ← x6]; exact hO
  have Y4 : Y0 X 3 4 = N0 4 ∧ Y0 X 3 5 = N0 5 ∧ Y0 X 3 6 = N0 6 := ⟨(Y0_o (by decide) (by decide)).trans x4, (Y0_o (by decide) (by decide)).trans x5, (Y0_o (by decide) (by decide)).trans x6⟩
  have y0 : Y0 X 3 8 0 = X 8 0 := Y0_8 (by decide)
  have y1 : Y0 X 3 8 1 = X 8 1 := Y0_8 (by decide)
  have yg : gst (Y0 X 3) = adS (N0 4) (gst X) := by rw [Y0_g, x4]
  refine zkv_of rfl (Nat.le_of_ble_eq_true rfl) (SX10_grassLine_0 ⟨_, r_goOn hT hB hR h0 (by omega), fun M3 h3 => ?_⟩)
  have m3 : M3 3 = M 3 := h3.2.1 3 (by decide)
  rw [m3, t0.1]
  refine ⟨_, r_number hT (hB.pF h3.2) h3.1 (by decide) (by omega), fun r7 M8 h8 => ?_⟩
  have m8 : M8 3 = M 3 := (h8.2.2.1 3 (by decide)).trans m3
  have p8 := h3.2.trans h8.2.2
  have hB8 := hB.pF p8
  rw [m8, t1.1]
  refine ⟨h8.1.1, by omega, fun r13 N15 e13 e15 => ?_⟩
  have hD8 : DQ (Y0 X 3) M8 := hD.up23 (Or.inr rfl) p8
  obtain ⟨hh1, hh2, hh3⟩ := r_nh (lo := 0) (hi := X 8 1 - 1) h8.1
  rw [← e15] at hh1 hh2 hh3
  have eN1 : nmF 0 (X 8 0 - 1) (Y0 X 3) = pst (Y0 X 3) (nmS (N0 4) (N0 5) (N0 6) 0 (X 8 0 - 1) (adS (N0 4) (gst X))) := by
    unfold nmF; rw [Y4.1, Y4.2.1, Y4.2.2, yg]
  have eN : nmF 0 (X 8 1 - 1) (nmF 0 (X 8 0 - 1) (Y0 X 3)) = pst (Y0 X 3) (nmS (N0 4) (N0 5) (N0 6) 0 (X 8 1 - 1) (nmS (N0 4) (N0 5) (N0 6) 0 (X 8 0 - 1) (adS (N0 4) (gst X)))) := by
    unfold nmF
    simp only [pst_o (b := 4) (by decide), pst_o (b := 5) (by decide), pst_o (b := 6) (by decide), gst_pst, pst_pst, Y4.1, Y4.2.1, Y4.2.2, yg]
  have eX : xyI (Y0 X 3) = nmV (N0 4) (N0 6) 0 (X 8 1 - 1) (nmS (N0 4) (N0 5) (N0 6) 0 (X 8 0 - 1) (adS (N0 4) (gst X))) * X 8 0 + nmV (N0 4) (N0 6) 0 (X 8 0 - 1) (adS (N0 4) (gst X)) := by
    unfold xyI; rw [nmF_g, Y4.1, Y4.2.1, Y4.2.2, y0, y1, yg]
  have hr : rdO (Y0 X 3) := (rdO_pst.mpr (rdK.ad hO)).zu (by decide) (by decide) (by decide)
  have v1 := nmV_in (lo := 0) (hi := X 8 0 - 1) (rdK.ad hO') (by omega)
  have v2 := nmV_in (lo := 0) (hi := X 8 1 - 1) (rdK.nm (Pl := N0 5) (lo := 0) (hi := X 8 0 - 1) (rdK.ad hO')) (by omega)
  have n2 := h8.2.1
  have e2 := h8.1.kz
  have w8 := h8.1.wz
  generalize nmS (N0 4) (N0 5) (N0 6) 0 (X 8 0 - 1) (adS (N0 4) (gst X)) = s2 at *
  have hw := hh1.wz
  have n17 := hh1.1.1
  refine ⟨hh1.1, fun z => ⟨by omega, fun q => by omega, fun _ => ?_⟩, fun z => ?_⟩
  · have zf : (nhS (N0 4) (N0 5) (N0 6) 0 (X 8 1 - 1) s2).2.1 ≠ 0 := fun y => z (hw.1.mp y)
    have e : graF (Y0 X 3) = pst (Y0 X 3) (nmS (N0 4) (N0 5) (N0 6) 0 (X 8 1 - 1) s2) := by
      unfold graF; rw [y0, y1, eN, if_neg (by rw [pst_7.2.1, nm_nh zf]; exact zf)]
    rw [e, nm_nh zf]
    exact ⟨by rw [gst_pst]; exact hh1, fun y => by rw [gst_pst] at y; exact absurd y zf, (p8.trans hh3).lF, (p8.trans hh3).f19⟩
  · have z0 := hw.1.mpr z
    obtain ⟨q1, q2, q3, q4⟩ := hh2 z0
    rw [q3] at z0
    rw [q4, m8, t0.1, e13, q1, n2 z0]
    have n80 := w8.1.mp z0
    have ci := cell_in (x := nmV (N0 4) (N0 6) 0 (X 8 0 - 1) (adS (N0 4) (gst X))) (y := nmV (N0 4) (N0 6) 0 (X 8 1 - 1) s2) (C := X 8 0) (R := X 8 1) (by omega) (by omega)
    have en : nmS (N0 4) (N0 5) (N0 6) 0 (X 8 1 - 1) s2 = adS (N0 4) s2 := nm_nh0 (by rw [q3]; exact z0)
    rw [Int.mul_comm] at ci
    rw [Int.mul_comm (X 8 0), Int.add_assoc, ← eX] at *
    have cv := hD8.2.2.1 (xyI (Y0 X 3)) (by omega) (by omega)
    have a0 : (adS (N0 4) s2).2.1 = 0 := by rw [ad_w]; exact z0
    refine ⟨by omega, by omega, fun y => ⟨by omega, fun _ => ⟨_, r_goOn (M := zu M8 7 (96 + xyI (Y0 X 3)) 1) hT (hB8.lF (lF.put (by omega))) (h8.1.row (Or.inl (by decide))) z0 (by rw [q2]; decide), fun N hN => ?_⟩, fun q => by omega⟩, fun y N37 e37 => ?_⟩
    · have e : graF (Y0 X 3) = zu (pst (Y0 X 3) (adS (N0 4) s2)) 11 (xyI (Y0 X 3)) 1 := by
        unfold graF; rw [y0, y1, eN, en, if_pos (by rw [pst_7.2.1]; exact a0), if_neg (by rw [← cv.2.2.1]; exact y)]
      rw [e]
      refine ⟨by rw [gst_zu (by decide), gst_pst]; exact hN.1, fun _ => (dq_grass hD8).pF hN.2, (p8.lF.trans (lF.put (by omega))).trans hN.2.lF, by rw [hN.2.f19, zu_other (by decide)]; exact p8.f19⟩
    · have r := r_wr (k := 3) h8.1 (by decide)
      rw [if_neg (by omega), ← e37] at r
      have rs : (rfS (N0 5) 3 s2.1 s2).2.1 = 3 := by unfold rfS; rw [if_pos z0]
      have r7 := r.wz
      rw [rs] at r7
      have n7 : N37 1 7 ≠ 0 := fun q => by have := r7.1.mpr q; omega
      have n71 := r.1.1
      refine ⟨by omega, fun q => by omega, fun _ => ?_⟩
      have e : graF (Y0 X 3) = zu (pst (Y0 X 3) (rfS (N0 5) 3 s2.1 (adS (N0 4) s2))) 11 (xyI (Y0 X 3)) 1 := by
        unfold graF; rw [y0, y1, eN, en, if_pos (by rw [pst_7.2.1]; exact a0), if_pos (by rw [← cv.2.2.1]; exact y), eN1, pst_7.1, gst_pst, Y4.2.1]
      have er : (rfS (N0 5) 3 s2.1 (adS (N0 4) s2)).2 = (rfS (N0 5) 3 s2.1 s2).2 := by unfold rfS; rw [if_pos a0, if_pos z0]
      have ef : (rfS (N0 5) 3 s2.1 (adS (N0 4) s2)).2.1 ≠ 0 := by rw [er, rs]; decide
      have pw : pF M8 N37 := by rw [e37]; exact wr_pF
      rw [e]
      refine ⟨by rw [gst_zu (by decide), gst_pst]; exact r.ft (by rw [rs]; decide) er, fun q => by rw [gst_zu (by decide), gst_pst] at q; exact absurd q ef, (p8.trans pw).lF, (p8.trans pw).f19⟩
end PO
