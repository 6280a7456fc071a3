/-! a line by its word, on both sides -/
/-- rows that reading a line never touches -/
def cF (X Y : zM) : Prop := ∀ c : Nat, c < 7 ∨ 13 < c → Y c = X c
section PU
variable {g : zG} {o : Bool} {M N N0 M' M3 X X' Y Z : zM} {lo hi k w L v C R n x : Int} {b : Int → Int} {pos : Nat → Int} {T : Nat} {s s' : Rs} {K Pl V : Int → Int}
theorem lnb5 (h : lnW X < 0 ∨ 9 < lnW X) : lnX n X = 5 ∧ lnbF n X = pst X (rtS (X 4) (X 5) (gst X)) := by
  have e : lnX n X = 5 := by unfold lnX; rw [if_pos h]
  refine ⟨e, ?_⟩
  unfold lnbF lwS; rw [e, if_neg (by decide), if_pos rfl]
theorem lnb2 (h : ¬ (lnW X < 0 ∨ 9 < lnW X)) (h' : (lnW X = 0 ∧ 0 < n) ∨ (lnW X = 2 ∧ 20 ≤ X 8 5)) : lnX n X = 2 ∧ lnbF n X = pst X (rfS (X 5) 2 (X 7 4) (gst X)) := by
  have e : lnX n X = 2 := by unfold lnX; rw [if_neg h, if_pos h']
  refine ⟨e, ?_⟩
  unfold lnbF lwS; rw [e, if_neg (by decide), if_neg (by decide), if_neg (by decide)]
theorem lnb3 (h : ¬ (lnW X < 0 ∨ 9 < lnW X)) (h' : ¬ ((lnW X = 0 ∧ 0 < n) ∨ (lnW X = 2 ∧ 20 ≤ X 8 5))) (u : lnW X ≠ 2 ∧ lnW X ≠ 3 ∧ bt (X 8 7) (lnW X)) : lnX n X = 3 ∧ lnbF n X = pst X (rfS (X 5) 3 (X 7 4) (gst X)) := by
  have e : lnX n X = 3 := by unfold lnX; rw [if_neg h, if_neg h', if_pos ⟨u.1, u.2.1, zb_t u.2.2⟩]
  refine ⟨e, ?_⟩
  unfold lnbF lwS; rw [e, if_neg (by decide), if_neg (by decide), if_neg (by decide)]
theorem lnb0 (h : ¬ (lnW X < 0 ∨ 9 < lnW X)) (h' : ¬ ((lnW X = 0 ∧ 0 < n) ∨ (lnW X = 2 ∧ 20 ≤ X 8 5))) (u : ¬ (lnW X ≠ 2 ∧ lnW X ≠ 3 ∧ bt (X 8 7) (lnW X))) : lnX n X = 0 ∧ lnbF n X = resF (lnW X) (Y0 X (lnW X)) := by
  have e : lnX n X = 0 := by unfold lnX; rw [if_neg h, if_neg h', if_neg (fun w => u ⟨w.1, w.2.1, zb_1.mp w.2.2⟩)]
  refine ⟨e, ?_⟩
  unfold lnbF; rw [if_pos e]; rfl
theorem res0 : resF 0 X = sizF X := by unfold resF; rw [if_pos rfl]
theorem res1 : resF 1 X = numF 0 9 8 2 X := by unfold resF; rw [if_neg (by decide), if_pos rfl]
theorem res2 : resF 2 X = heaF X := by unfold resF; rw [if_neg (by decide), if_neg (by decide), if_pos rfl]
theorem res3 : resF 3 X = graF X := by unfold resF; rw [if_neg (by decide), if_neg (by decide), if_neg (by decide), if_pos rfl]
theorem res4 : resF 4 X = winL 8 0 (zu X 8 6 0) := by unfold resF; rw [if_neg (by decide), if_neg (by decide), if_neg (by decide), if_neg (by decide), if_pos rfl]
theorem res5 : resF 5 X = numF 1 6 9 0 X := by unfold resF; rw [if_neg (by decide), if_neg (by decide), if_neg (by decide), if_neg (by decide), if_neg (by decide), if_pos rfl]
theorem res6 : resF 6 X = numF 1 9 9 1 X := by unfold resF; rw [if_neg (by decide), if_neg (by decide), if_neg (by decide), if_neg (by decide), if_neg (by decide), if_neg (by decide), if_pos rfl]
theorem res7 : resF 7 X = numF 1 9 8 3 X := by unfold resF; rw [if_neg (by decide), if_neg (by decide), if_neg (by decide), if_neg (by decide), if_neg (by decide), if_neg (by decide), if_neg (by decide), if_pos rfl]
theorem res8 : resF 8 X = numF 0 16 9 3 (numF 0 16 9 2 X) := by unfold resF; rw [if_neg (by decide), if_neg (by decide), if_neg (by decide), if_neg (by decide), if_neg (by decide), if_neg (by decide), if_neg (by decide), if_neg (by decide), if_pos rfl]
theorem res9 : resF 9 X = numF 0 9999 8 4 X := by unfold resF; rw [if_neg (by decide), if_neg (by decide), if_neg (by decide), if_neg (by decide), if_neg (by decide), if_neg (by decide), if_neg (by decide), if_neg (by decide), if_neg (by decide)]
theorem dq_19 (h : DQ X M) : DQ X (zu M 1 19 v) := by
  obtain ⟨h1, h2, h3, h4, h5⟩ := h
  exact ⟨h1.of (fun _ _ => rfl) (fun i a c => by rw [zu_other (by decide)]), h2.of rfl rfl rfl (zu_other (by decide)) (zu_other (by decide)), h3.of rfl rfl (zu_other (by decide)) (zu_other (by decide)), h4.of rfl rfl (by rw [zu_row, if_neg (by decide)]), h5.of rfl (zu_other (by decide))⟩
theorem rf_n (h0 : s.2.1 = 0) (hk : k ≠ 0) : (rfS Pl k w s).2.1 ≠ 0 := by unfold rfS; rw [if_pos h0]; exact hk
/-- told, and then none or all of it -/
theorem fin_ln (hz : (gst X).2.1 = 0) (x5 : X 5 = N0 5) (hl : lnW X = k) (hk : 1 ≤ k ∧ k ≤ 9 ∧ k ≠ 2 ∧ k ≠ 3) (h3 : bt (X 8 7) k → RLk N0 pos T (rfS (N0 5) 3 (gst X).1 (gst X)) N ∧ lF M N) (h0 : ¬ bt (X 8 7) k → LPw N0 pos T M (resF k (Y0 X k)) N) : LPw N0 pos T M (lnbF n X) N := by
  have a : ¬ (lnW X < 0 ∨ 9 < lnW X) := by omega
  have c : ¬ ((lnW X = 0 ∧ 0 < n) ∨ (lnW X = 2 ∧ 20 ≤ X 8 5)) := by omega
  by_cases hb : bt (X 8 7) k
  · have e := (lnb3 (n := n) a c ⟨by omega, by omega, by rw [hl]; exact hb⟩).2
    rw [e]
    exact LPw_f (h3 hb).1 (rf_n hz (by decide)) (by rw [gst_pst, x5]; rfl) (h3 hb).2
  · have e := (lnb0 (n := n) a c (fun u => hb (by rw [← hl]; exact u.2.2))).2
    rw [e, hl]; exact h0 hb
theorem r_other (hT : TS b L N0 pos T) (hB : RBx b L M) (hR : RLk N0 pos T (gst X) M) (hz : (gst X).2.1 = 0) (hX : X 4 = N0 4 ∧ X 5 = N0 5 ∧ X 6 = N0 6) (hD : DQ X M) (hO : rdO X) (hl : lnW X ≠ 0) : zKv g (z2 o) mX10_otherLine [zA g 1] M (fun N => LPw N0 pos T (zu M 1 19 1) (lnbF n X) N) := by
  have hR1 : RLk N0 pos T (gst X) (zu M 1 19 1) := hR.row (Or.inr (Or.inr rfl))
  have hB1 : RBx b L (zu M 1 19 1) := ⟨by rw [zu_other (by decide)]; exact hB.1, hB.2.1, by rw [zu_row, if_neg (by decide)]; exact hB.2.2⟩
  have hD1 : DQ X (zu M 1 19 1) := dq_19 hD
  have x4 := hX.1
  have x5 := hX.2.1
  have x6 := hX.2.2
  have g4 : (gst X).1 = X 7 4 := rfl
  have lw1 : N0 4 (gst X).1 = 1 → lnW X = N0 6 (gst X).1 := fun q => by unfold lnW; rw [x4, x6, ← g4, if_pos q]
  have lw0 : N0 4 (gst X).1 ≠ 1 → lnW X = -1 := fun q => by unfold lnW; rw [x4, ← g4, if_neg q]
  have hW : ∀ j : Nat, j < 15 → (isW (WP.getD j 0) (zu M 1 19 1) ↔ lnW X = j) := fun j hj => by
    rw [hR1.isw j hj]
    constructor
    · intro q; rw [lw1 q.2.1]; exact q.2.2
    · intro q
      by_cases c : N0 4 (gst X).1 = 1
      · exact ⟨hz, c, by rw [← lw1 c]; exact q⟩
      · rw [lw0 c] at q; omega
  have k1 : 0 ≤ lnW X → N0 4 (gst X).1 = 1 := fun q => Classical.not_not.mp (fun c => by rw [lw0 c] at q; exact absurd q (by decide))
  have lb : 0 ≤ lnW X → LB N0 pos T b L X (zu M 1 19 1) := fun q => ⟨hT, hB1, hR1, hz, k1 q, hX, hD1, hO⟩
  have w1 : isW 1935765092 (zu M 1 19 1) ↔ lnW X = 1 := hW 1 (by decide)
  have w2 : isW 1751474544 (zu M 1 19 1) ↔ lnW X = 2 := hW 2 (by decide)
  have w3 : isW 444300620659 (zu M 1 19 1) ↔ lnW X = 3 := hW 3 (by decide)
  have w4 : isW 2003398244 (zu M 1 19 1) ↔ lnW X = 4 := hW 4 (by decide)
  have w5 : isW 6844272 (zu M 1 19 1) ↔ lnW X = 5 := hW 5 (by decide)
  have w6 : isW 126892147765111 (zu M 1 19 1) ↔ lnW X = 6 := hW 6 (by decide)
  have w7 : isW 495740481637 (zu M 1 19 1) ↔ lnW X = 7 := hW 7 (by decide)
  have w8 : isW 495874302827 (zu M 1 19 1) ↔ lnW X = 8 := hW 8 (by decide)
  have w9 : isW 1685217655 (zu M 1 19 1) ↔ lnW X = 9 := hW 9 (by decide)
  have hlw : -1 ≤ lnW X ∧ lnW X ≤ 14 := by
    by_cases c : N0 4 (gst X).1 = 1
    · rw [lw1 c]
      have := hO.tk.2.2.1
      rw [x4, x6, ← g4] at this; exact this c
    · rw [lw0 c]; decide
  refine zkv_of rfl (Nat.le_of_ble_eq_true rfl) (SX10_otherLine_0 ⟨hR1.1, fun n1 => ⟨fun n2 => ⟨fun n3 => ⟨fun n4 => ⟨fun n5 => ⟨fun n6 => ⟨fun n7 => ⟨fun n8 => ⟨fun n9 N31 e => ?_, fun y => ?_⟩, fun y => ?_⟩, fun y => ?_⟩, fun y => ?_⟩, fun y => ?_⟩, fun y => ?_⟩, fun y => ?_⟩, fun y => ?_⟩, fun y => ?_⟩)
  · subst e
    have a : lnW X < 0 ∨ 9 < lnW X := by
      have a1 : lnW X ≠ 1 := fun q => n1 (w1.mpr q)
      have a2 : lnW X ≠ 2 := fun q => n2 (w2.mpr q)
      have a3 : lnW X ≠ 3 := fun q => n3 (w3.mpr q)
      have a4 : lnW X ≠ 4 := fun q => n4 (w4.mpr q)
      have a5 : lnW X ≠ 5 := fun q => n5 (w5.mpr q)
      have a6 : lnW X ≠ 6 := fun q => n6 (w6.mpr q)
      have a7 : lnW X ≠ 7 := fun q => n7 (w7.mpr q)
      have a8 : lnW X ≠ 8 := fun q => n8 (w8.mpr q)
      have a9 : lnW X ≠ 9 := fun q => n9 (w9.mpr q)
      omega
    have r : RLk N0 pos T (rtS (N0 4) (N0 5) (gst X)) (wrM 2 (zu M 1 19 1)) := r_wr (k := 2) hR1 (by decide)
    rw [(lnb5 (n := n) a).2]
    exact LPw_f r (rt_n hz) (by rw [gst_pst, x4, x5]) wr_pF.lF
  · have q := w9.mp y
    refine ⟨_, r_simple (e := (8, 4, 18, 0, 9999)) (j := 7) (k := 9) (wt := 8) hT hB1 hR1 hz (k1 (by omega)) hX hD1 hO (by decide) (by decide) (by decide) rfl rfl, fun N hN => fin_ln hz x5 q (by decide) hN.1 (fun u => ?_)⟩
    rw [res9]; exact (hN.2 u).up
  · have q := w8.mp y
    refine ⟨_, r_stick (lb (by omega)), fun N hN => fin_ln hz x5 q (by decide) (fun u => ⟨(hN.1 u).1, (hN.1 u).2.1⟩) (fun u => ?_)⟩
    rw [res8]; exact (hN.2 u).up
  · have q := w7.mp y
    refine ⟨_, r_simple (e := (8, 3, 15, 1, 9)) (j := 5) (k := 7) (wt := 5) hT hB1 hR1 hz (k1 (by omega)) hX hD1 hO (by decide) (by decide) (by decide) rfl rfl, fun N hN => fin_ln hz x5 q (by decide) hN.1 (fun u => ?_)⟩
    rw [res7]; exact (hN.2 u).up
  · have q := w6.mp y
    refine ⟨_, r_simple (e := (9, 1, 14, 1, 9)) (j := 4) (k := 6) (wt := 4) hT hB1 hR1 hz (k1 (by omega)) hX hD1 hO (by decide) (by decide) (by decide) rfl rfl, fun N hN => fin_ln hz x5 q (by decide) hN.1 (fun u => ?_)⟩
    rw [res6]; exact (hN.2 u).up
  · have q := w5.mp y
    refine ⟨_, r_simple (e := (9, 0, 13, 1, 6)) (j := 3) (k := 5) (wt := 3) hT hB1 hR1 hz (k1 (by omega)) hX hD1 hO (by decide) (by decide) (by decide) rfl rfl, fun N hN => fin_ln hz x5 q (by decide) hN.1 (fun u => ?_)⟩
    rw [res5]; exact (hN.2 u).up
  · have q := w4.mp y
    refine ⟨_, r_wind (lb (by omega)), fun N hN => fin_ln hz x5 q (by decide) hN.1 (fun u => ?_)⟩
    rw [res4]; exact hN.2 u
  · have q := w3.mp y
    refine ⟨_, r_grass (lb (by omega)), fun N hN => ?_⟩
    have e := (lnb0 (n := n) (X := X) (by omega) (by omega) (fun u => by omega)).2
    rw [e, q]
    have := hN.up
    rw [← res3] at this; exact this
  · have q := w2.mp y
    have e20 : (zu M 1 19 1) 1 20 = X 8 5 := hD1.2.2.2.1.1
    have r20 := hD1.2.2.2.1.2.1
    refine ⟨_, r_heap (lb (by omega)), fun N hN => ?_⟩
    by_cases c : X 8 5 = 20
    · have e := (lnb2 (n := n) (X := X) (by omega) (by omega)).2
      have := hN.1 (by rw [e20]; exact c)
      rw [e]
      exact LPw_f this.1 (rf_n hz (by decide)) (by rw [gst_pst, x5]; rfl) this.2.1
    · have e := (lnb0 (n := n) (X := X) (by omega) (by omega) (fun u => by omega)).2
      rw [e, q]
      have := (hN.2 (by rw [e20]; exact c)).up
      rw [← res2] at this; exact this
  · have q := w1.mp y
    refine ⟨_, r_simple (e := (8, 2, 12, 0, 9)) (j := 1) (k := 1) (wt := 2) hT hB1 hR1 hz (k1 (by omega)) hX hD1 hO (by decide) (by decide) (by decide) rfl rfl, fun N hN => fin_ln hz x5 q (by decide) hN.1 (fun u => ?_)⟩
    rw [res1]; exact (hN.2 u).up
theorem siz87 : sizF Y 8 7 = Y 8 7 := by
  unfold sizF byF numF
  rw [zu_row, if_neg (by decide), nmF_o (by decide), pst_o (by decide), zu_row, if_neg (by decide), nmF_o (by decide)]
theorem r_siz (hT : TS b L N0 pos T) (hB : RBx b L M) (hR : RLk N0 pos T (gst X) M) (hz : (gst X).2.1 = 0) (hk : N0 4 (gst X).1 = 1) (hX : X 4 = N0 4 ∧ X 5 = N0 5 ∧ X 6 = N0 6) (hD : DQ X M) (hO : rdO X) (hl : lnW X = 0) (h19 : M 1 19 = 0 ∨ M 1 19 = 1) (hn : 0 ≤ n) (hN : 0 < n ↔ (M 1 19 = 1 ∨ M 9 0 = 1)) : zKv g (z2 o) mX10_sizeLine [zA g 1] M (fun N => LPw N0 pos T M (lnbF n X) N ∧ ((sgS N0 (gst (lnbF n X))).2.1 = 0 → N 9 0 = 1)) := by
  refine zkv_mono (r_size ⟨hT, hB, hR, hz, hk, hX, hD, hO⟩ h19) (fun N h => ?_)
  have x5 := hX.2.1
  by_cases c : 0 < n
  · have e := (lnb2 (n := n) (X := X) (by omega) (by omega)).2
    have hh := h.1 (hN.mp c)
    have nf : (rfS (N0 5) 2 (gst X).1 (gst X)).2.1 ≠ 0 := rf_n hz (by decide)
    have eg : gst (pst X (rfS (X 5) 2 (X 7 4) (gst X))) = rfS (N0 5) 2 (gst X).1 (gst X) := by rw [gst_pst, x5]; rfl
    rw [e]
    exact ⟨LPw_f hh.1 nf eg hh.2.1, fun z => by rw [eg] at z; exact absurd (sgS_0 z) nf⟩
  · have ng : ¬ (M 1 19 = 1 ∨ M 9 0 = 1) := fun q => c (hN.mpr q)
    have hs := hD.2.2.2.2.2 0 (by decide)
    have nb : ¬ bt (X 8 7) 0 := fun q => ng (Or.inr (hs.2.mpr q))
    have e := (lnb0 (n := n) (X := X) (by omega) (by omega) (fun u => nb (by rw [← hl]; exact u.2.2))).2
    have hh := h.2 ng
    rw [e, hl, res0]
    refine ⟨hh.up, fun z => ?_⟩
    have d := hh.2.1 (sgS_0 z)
    have ds := d.2.2.2.2.2 0 (by decide)
    refine ds.2.mpr ?_
    rw [siz87, Y0_87]
    exact (bt_sbt hD.2.2.2.2.1 (by decide) (by decide)).mpr (Or.inr rfl)
end PU
