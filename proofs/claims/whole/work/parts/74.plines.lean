/-! the other lines -/
section PM
variable {g : zG} {o : Bool} {M N N0 M' X X' Z : zM} {lo hi k w L v : Int} {b : Int → Int} {pos : Nat → Int} {T : Nat} {s : Rs} {K Pl V : Int → Int}
theorem DQ.once {j : Nat} (h : DQ X M) (hj : j < 8) (hk : hix.getD j 0 = k) (hp : pF (zu M 9 j 1) N) : DQ (Y0 X k) N := by
  obtain ⟨h1, h2, h3, h4, h5⟩ := h
  have mo : ∀ c : Nat, c ≠ 1 → c ≠ 9 → N c = M c := fun c c1 c9 => by rw [hp.1 c c1, zu_other c9]
  refine ⟨h1.of (fun e he => ?_) (fun i a c => by rw [mo 3 (by decide) (by decide)]), h2.of (Y0_8 (by decide)) (Y0_o (by decide) (by decide)) (Y0_o (by decide) (by decide)) (mo 4 (by decide) (by decide)) (mo 5 (by decide) (by decide)), h3.of (Y0_o (by decide) (by decide)) (Y0_o (by decide) (by decide)) (mo 6 (by decide) (by decide)) (mo 7 (by decide) (by decide)), h4.of (Y0_8 (by decide)) (Y0_o (by decide) (by decide)) (by rw [hp.f20, zu_other (by decide)]), h5.up hj (by rw [hk]; exact Y0_87) (fun i => by rw [hp.1 9 (by decide), zu_row])⟩
  have r := T10_r e he
  unfold Y0 zu
  rw [if_neg r.2.1, pst_o (by omega)]
theorem DQ.up23 (h : DQ X M) (hk : k = 2 ∨ k = 3) (hp : pF M N) : DQ (Y0 X k) N := by
  obtain ⟨h1, h2, h3, h4, h5⟩ := h
  refine ⟨h1.of (fun e he => ?_) (fun i a c => by rw [hp.1 3 (by decide)]), h2.of (Y0_8 (by decide)) (Y0_o (by decide) (by decide)) (Y0_o (by decide) (by decide)) (hp.1 4 (by decide)) (hp.1 5 (by decide)), h3.of (Y0_o (by decide) (by decide)) (Y0_o (by decide) (by decide)) (hp.1 6 (by decide)) (hp.1 7 (by decide)), h4.of (Y0_8 (by decide)) (Y0_o (by decide) (by decide)) hp.f20, h5.up23 hk Y0_87 (hp.1 9 (by decide))⟩
  have r := T10_r e he
  unfold Y0 zu
  rw [if_neg r.2.1, pst_o (by omega)]
theorem DQ.pF (h : DQ X M) (hp : pF M N) : DQ X N := by
  obtain ⟨h1, h2, h3, h4, h5⟩ := h
  exact ⟨h1.of (fun _ _ => rfl) (fun i a c => by rw [hp.1 3 (by decide)]), h2.of rfl rfl rfl (hp.1 4 (by decide)) (hp.1 5 (by decide)), h3.of rfl rfl (hp.1 6 (by decide)) (hp.1 7 (by decide)), h4.of rfl rfl hp.f20, h5.of rfl (hp.1 9 (by decide))⟩
theorem DQ.ps (h : DQ X M) : DQ (pst X s) M := by
  obtain ⟨h1, h2, h3, h4, h5⟩ := h
  have x : ∀ c : Nat, c ≠ 7 → pst X s c = X c := fun c hc => pst_o hc
  exact ⟨h1.of (fun e he => by have r := T10_r e he; rw [x _ (by omega)]) (fun _ _ _ => rfl), h2.of (by rw [x 8 (by decide)]) (x 12 (by decide)) (x 13 (by decide)) rfl rfl, h3.of (x 10 (by decide)) (x 11 (by decide)) rfl rfl, h4.of (by rw [x 8 (by decide)]) (x 10 (by decide)) rfl, h5.of (by rw [x 8 (by decide)]) rfl⟩
theorem DQ.put (e : Nat × Int × Int × Int × Int) (h : DQ X M) (he : e ∈ T10) (h86 : ¬ (e.1 = 8 ∧ e.2.1 = 6)) (hv : e.2.2.2.1 ≤ v ∧ v ≤ e.2.2.2.2) : DQ (zu X e.1 e.2.1 v) (zu M 3 e.2.2.1 v) := by
  obtain ⟨h1, h2, h3, h4, h5⟩ := h
  have r := T10_r e he
  have x8 : ∀ i : Int, ¬ (e.1 = 8 ∧ e.2.1 = i) → zu X e.1 e.2.1 v 8 i = X 8 i := fun i hne => by
    unfold zu
    rw [if_neg (fun z => hne ⟨z.1.symm, z.2.symm⟩)]
  have xo : ∀ c : Nat, c ≠ 8 → c ≠ 9 → zu X e.1 e.2.1 v c = X c := fun c c8 c9 => zu_other (by omega)
  exact ⟨h1.put he hv (fun i hi => by rw [zu_row, if_neg hi]) (zu_at _ _ _ _), h2.of (x8 6 h86) (xo 12 (by decide) (by decide)) (xo 13 (by decide) (by decide)) (zu_other (by decide)) (zu_other (by decide)), h3.of (xo 10 (by decide) (by decide)) (xo 11 (by decide) (by decide)) (zu_other (by decide)) (zu_other (by decide)), h4.of (x8 5 r.2.2.1) (xo 10 (by decide) (by decide)) (by rw [zu_other (by decide)]), h5.of (x8 7 r.2.1) (zu_other (by decide))⟩
theorem nmS_0 (h : (nmS K Pl V lo hi s).2.1 = 0) : s.2.1 = 0 := by
  by_cases z : s.2.1 = 0
  · exact z
  · unfold nmS at h; rw [if_neg z] at h; exact h
theorem xpS_0 {c : Int} (h : (xpS K Pl c s).2.1 = 0) : s.2.1 = 0 := by
  by_cases z : s.2.1 = 0
  · exact z
  · unfold xpS at h; rw [if_neg z] at h; exact h
theorem rt_n (h0 : s.2.1 = 0) : (rtS K Pl s).2.1 ≠ 0 := by
  unfold rtS rfS; rw [if_pos h0]; show (if K s.1 = 4 then (1 : Int) else 2) ≠ 0; split <;> decide
theorem rt_f (h0 : s.2.1 ≠ 0) : rtS K Pl s = s := by unfold rtS rfS; rw [if_neg h0]
/-- where a line begins -/
def LB (N0 : zM) (pos : Nat → Int) (T : Nat) (b : Int → Int) (L : Int) (X M : zM) : Prop := TS b L N0 pos T ∧ RBx b L M ∧ RLk N0 pos T (gst X) M ∧ (gst X).2.1 = 0 ∧ N0 4 (gst X).1 = 1 ∧ (X 4 = N0 4 ∧ X 5 = N0 5 ∧ X 6 = N0 6) ∧ DQ X M ∧ rdO X
theorem r_size (H : LB N0 pos T b L X M) (h19 : M 1 19 = 0 ∨ M 1 19 = 1) : zKv g (z2 o) mX10_sizeLine [zA g 1] M (fun N => ((M 1 19 = 1 ∨ M 9 0 = 1) → RLk N0 pos T (rfS (N0 5) 2 (gst X).1 (gst X)) N ∧ lF M N ∧ N 1 19 = M 1 19) ∧ (¬ (M 1 19 = 1 ∨ M 9 0 = 1) → LPo N0 pos T M (sizF (Y0 X 0)) N)) := by
  obtain ⟨hT, hB, hR, h0, hk1, ⟨x4, x5, x6⟩, hD, hO⟩ := H
  have hs := hD.2.2.2.2.2 0 (by decide)
  have hw := hR.wz
  have m7 := hw.1.mp h0
  have s1 := hs.1
  change M 9 0 = 0 ∨ M 9 0 = 1 at s1
  have bad : (M 1 19 = 1 ∨ M 9 0 = 1) → zT g (z2 o) mX10_sizeLine (zQv (z2 o) (fun N => ((M 1 19 = 1 ∨ M 9 0 = 1) → RLk N0 pos T (rfS (N0 5) 2 (gst X).1 (gst X)) N ∧ lF M N ∧ N 1 19 = M 1 19) ∧ (¬ (M 1 19 = 1 ∨ M 9 0 = 1) → LPo N0 pos T M (sizF (Y0 X 0)) N))) 21 [(0, zA g 1)] [] (wrM 2 M) := fun hb => by
    have r := r_wr (k := 2) hR (by decide)
    rw [if_neg (by omega)] at r
    have n7 := r.wz
    have rs : (rfS (N0 5) 2 (gst X).1 (gst X)).2.1 = 2 := by unfold rfS; rw [if_pos h0]
    rw [rs] at n7
    have : wrM 2 M 1 7 ≠ 0 := fun y => by have := n7.1.mpr y; omega
    have h17 := r.1.1
    exact SX10_sizeLine_21 ⟨r.1, fun _ => ⟨by omega, fun y => by omega, fun _ => ⟨fun _ => ⟨r, wr_pF.lF, wr_pF.f19⟩, fun z => absurd hb z⟩⟩, fun y => absurd y this⟩
  refine zkv_of rfl (Nat.le_of_ble_eq_true rfl) (SX10_sizeLine_0 ⟨by omega, fun z => ⟨hR.1, fun N e => by subst e; exact bad (by omega)⟩, fun z => ⟨by omega, fun z' => ?_, fun z' => ⟨hR.1, fun N e => by subst e; exact bad (by omega)⟩⟩⟩)
  have ng : ¬ (M 1 19 = 1 ∨ M 9 0 = 1) := by omega
  refine SX10_sizeLine_21 ⟨hR.1, fun y => absurd m7 y, fun _ => ⟨_, r_once hT hB hR h0 hk1 (i := 0) (by decide) s1, fun r2 M3 h3 => ?_⟩⟩
  obtain ⟨a1, a2, a3⟩ := h3.2 z'
  have a30 : pF (zu M 9 0 1) M3 := a3
  have hB3 : RBx b L M3 := (hB.lF (lF.put (c := 9) (i := 0) (v := 1) (by omega))).pF a30
  have hD3 : DQ (Y0 X 0) M3 := hD.once (j := 0) (by decide) rfl a3
  have a27 := a2.wz
  have a0 : (adS (N0 4) (gst X)).2.1 = 0 := by rw [ad_w]; exact h0
  have m37 := a27.1.mp a0
  refine ⟨by omega, fun y => by omega, fun _ => ⟨by omega, fun _ => ⟨_, r_number hT hB3 a2 (by decide) (by decide), fun r6 M7 h7 => ?_⟩, fun y => by omega⟩⟩
  obtain ⟨n1, n2, n3⟩ := h7
  have hB7 := hB3.pF n3
  have hr0 : rdO (Y0 X 0) := (rdO_pst.mpr (rdK.ad hO)).zu (by decide) (by decide) (by decide)
  -- the states
  let A : zM := numF 3 12 8 0 (Y0 X 0)
  have eA : gst A = nmS (N0 4) (N0 5) (N0 6) 3 12 (adS (N0 4) (gst X)) := by
    show gst (numF 3 12 8 0 (Y0 X 0)) = _
    unfold numF; rw [gst_zu (by decide), nmF_g, Y0_g, Y0_o (by decide) (by decide), Y0_o (by decide) (by decide), Y0_o (by decide) (by decide), x4, x5, x6]
  have A4 : A 4 = N0 4 ∧ A 5 = N0 5 ∧ A 6 = N0 6 := ⟨(numF_o (by decide) (by decide)).trans ((Y0_o (by decide) (by decide)).trans x4), (numF_o (by decide) (by decide)).trans ((Y0_o (by decide) (by decide)).trans x5), (numF_o (by decide) (by decide)).trans ((Y0_o (by decide) (by decide)).trans x6)⟩
  have rA : rdO A := hr0.num (by decide) (by decide) (by decide)
  rw [← eA] at n1 n2
  have A74 : A 7 4 = (gst A).1 := rfl
  have eB : gst (byF A) = xpS (N0 4) (N0 5) (if N0 4 (gst A).1 = 1 ∧ N0 6 (gst A).1 = 14 then 1 else 0) (gst A) := by
    unfold byF; rw [gst_pst, A4.1, A4.2.1, A4.2.2, A74]
  have B4 : byF A 4 = N0 4 ∧ byF A 5 = N0 5 ∧ byF A 6 = N0 6 := ⟨(pst_o (by decide)).trans A4.1, (pst_o (by decide)).trans A4.2.1, (pst_o (by decide)).trans A4.2.2⟩
  have eS : gst (sizF (Y0 X 0)) = nmS (N0 4) (N0 5) (N0 6) 1 8 (gst (byF A)) := by
    show gst (numF 1 8 8 1 (byF A)) = _
    unfold numF; rw [gst_zu (by decide), nmF_g, B4.1, B4.2.1, B4.2.2]
  -- behind by
  have fin : ∀ M9 : zM, RLk N0 pos T (gst (byF A)) M9 → pF M7 M9 → ∀ r : Int, ∀ M20 : zM, RLk N0 pos T (nmS (N0 4) (N0 5) (N0 6) 1 8 (gst (byF A))) M20 ∧ ((nmS (N0 4) (N0 5) (N0 6) 1 8 (gst (byF A))).2.1 = 0 → r = nmV (N0 4) (N0 6) 1 8 (gst (byF A))) ∧ pF M9 M20 → (M20 1 7 ≤ 0 → ∀ N24 : zM, N24 = zu M20 3 10 r6 → LPo N0 pos T M (sizF (Y0 X 0)) (zu N24 3 11 r)) ∧ (¬ M20 1 7 ≤ 0 → LPo N0 pos T M (sizF (Y0 X 0)) M20) := fun M9 u1 u2 r M20 u3 => by
    obtain ⟨v1, v2, v3⟩ := u3
    have p := (n3.trans u2).trans v3
    have p0 := a30.trans p
    have lf : lF M M20 := (lF.put (c := 9) (i := 0) (v := 1) (by omega)).trans p0.lF
    have f19 : M20 1 19 = M 1 19 := by rw [p0.f19, zu_other (by decide)]
    have vw := v1.wz
    refine ⟨fun y N24 e => ?_, fun y => ?_⟩
    · subst e
      have y0 : M20 1 7 = 0 := by have := v1.1.1; omega
      have z4 := vw.1.mpr y0
      have z3 := nmS_0 z4
      have z2' : (gst A).2.1 = 0 := by rw [eB] at z3; exact xpS_0 z3
      refine ⟨by rw [eS]; exact (v1.row (Or.inl (by decide))).row (Or.inl (by decide)), fun _ => ?_, (lf.trans (lF.put (by omega))).trans (lF.put (by omega)), by rw [zu_other (by decide), zu_other (by decide)]; exact f19⟩
      have d1 : DQ A (zu M20 3 10 r6) := by
        rw [n2 z2']
        have := DQ.put (v := nmV (Y0 X 0 4) (Y0 X 0 6) 3 12 (gst (Y0 X 0))) (8, 0, 10, 3, 12) ((hD3.pF p).ps (s := nmS (Y0 X 0 4) (Y0 X 0 5) (Y0 X 0 6) 3 12 (gst (Y0 X 0)))) (by decide) (by decide) (nmV_in hr0 (by decide))
        have e : nmV (N0 4) (N0 6) 3 12 (adS (N0 4) (gst X)) = nmV (Y0 X 0 4) (Y0 X 0 6) 3 12 (gst (Y0 X 0)) := by rw [Y0_g, Y0_o (by decide) (by decide), Y0_o (by decide) (by decide), x4, x6]
        rw [e]; exact this
      rw [v2 z4]
      have d2 := DQ.put (v := nmV (byF A 4) (byF A 6) 1 8 (gst (byF A))) (8, 1, 11, 1, 8) ((d1.ps (s := xpS (A 4) (A 5) (if A 4 (A 7 4) = 1 ∧ A 6 (A 7 4) = 14 then 1 else 0) (gst A))).ps (s := nmS (byF A 4) (byF A 5) (byF A 6) 1 8 (gst (byF A)))) (by decide) (by decide) (nmV_in rA.by_ (by decide))
      rw [B4.1, B4.2.2] at d2
      have e : sizF (Y0 X 0) = zu (pst (byF A) (nmS (byF A 4) (byF A 5) (byF A 6) 1 8 (gst (byF A)))) 8 1 (nmV (N0 4) (N0 6) 1 8 (gst (byF A))) := by
        show numF 1 8 8 1 (byF A) = _
        unfold numF nmF; rw [B4.1, B4.2.2]
      rw [e, B4.1, B4.2.2]; exact d2
    · refine ⟨by rw [eS]; exact v1, fun z => ?_, lf, f19⟩
      rw [eS] at z
      exact absurd (vw.1.mp z) (by omega)
  have iw := n1.isw 14 (by decide)
  have nw := n1.wz
  refine ⟨n1.1, fun y => ?_, fun y N17 e => ?_⟩
  · have y' := iw.mp y
    have eB' : gst (byF A) = adS (N0 4) (gst A) := by rw [eB, if_pos ⟨y'.2.1, y'.2.2⟩]; unfold xpS; rw [if_pos y'.1, if_neg (by decide)]
    refine SX10_sizeLine_67 ⟨n1.1, fun z => absurd (nw.1.mp y'.1) z, fun _ => ⟨_, r_goOn hT hB7 n1 y'.1 (by rw [y'.2.1]; decide), fun M15 h15 => ⟨_, r_number hT (hB7.pF h15.2) h15.1 (by decide) (by decide), fun r19 M20 h20 => ?_⟩⟩⟩
    rw [← eB'] at h15 h20
    have f := fin M15 h15.1 h15.2 r19 M20 h20
    exact ⟨by have := h20.1.1.1; omega, fun z N e => ⟨fun q => absurd q ng, fun _ => f.1 z N e⟩, fun z => ⟨fun q => absurd q ng, fun _ => f.2 z⟩⟩
  · subst e
    have r := r_wr (k := 2) n1 (by decide)
    have eB' : gst (byF A) = rfS (N0 5) (if N0 4 (gst A).1 = 4 then 1 else 2) (gst A).1 (gst A) := by
      rw [eB]
      by_cases q : (gst A).2.1 = 0
      · rw [if_neg (fun c => y (iw.mpr ⟨q, c.1, c.2⟩))]; unfold xpS; rw [if_pos q, if_pos rfl]; rfl
      · unfold xpS rfS; rw [if_neg q, if_neg q]
    rw [← eB'] at r
    have rw' := r.wz
    have nz : (gst (byF A)).2.1 ≠ 0 := by
      rw [eB']
      by_cases q : (gst A).2.1 = 0
      · exact rt_n q
      · unfold rfS; rw [if_neg q]; exact q
    refine SX10_sizeLine_67 ⟨r.1, fun _ => ⟨_, r_number hT (hB7.pF wr_pF) r (by decide) (by decide), fun r6' M20 h20 => ?_⟩, fun z => absurd (rw'.1.mpr z) nz⟩
    have f := fin _ r wr_pF r6' M20 h20
    exact ⟨by have := h20.1.1.1; omega, fun z N e => ⟨fun q => absurd q ng, fun _ => f.1 z N e⟩, fun z => ⟨fun q => absurd q ng, fun _ => f.2 z⟩⟩
theorem r_stick (H : LB N0 pos T b L X M) : zKv g (z2 o) mX10_stickLine [zA g 1] M (fun N => (bt (X 8 7) 8 → RLk N0 pos T (rfS (N0 5) 3 (gst X).1 (gst X)) N ∧ lF M N ∧ N 1 19 = M 1 19) ∧ (¬ bt (X 8 7) 8 → LPo N0 pos T M (numF 0 16 9 3 (numF 0 16 9 2 (Y0 X 8))) N)) := by
  obtain ⟨hT, hB, hR, h0, hk1, ⟨x4, x5, x6⟩, hD, hO⟩ := H
  have hs := hD.2.2.2.2.2 6 (by decide)
  change (M 9 6 = 0 ∨ M 9 6 = 1) ∧ (M 9 6 = 1 ↔ bt (X 8 7) 8) at hs
  refine zkv_of rfl (Nat.le_of_ble_eq_true rfl) (SX10_stickLine_0 ⟨_, r_once hT hB hR h0 hk1 (i := 6) (by decide) hs.1, fun r2 M3 h3 => ?_⟩)
  by_cases hb : bt (X 8 7) 8
  · obtain ⟨a1, a2, a3⟩ := h3.1 (hs.2.mpr hb)
    exact ⟨by omega, fun z => absurd a1 z, fun _ => ⟨fun _ => ⟨a2, a3.lF, a3.f19⟩, fun z => absurd hb z⟩⟩
  · have m0 : M 9 6 = 0 := by
      rcases hs.1 with z | z
      · exact z
      · exact absurd (hs.2.mp z) hb
    obtain ⟨a1, a2, a3⟩ := h3.2 m0
    have a30 : pF (zu M 9 6 1) M3 := a3
    have hB3 : RBx b L M3 := (hB.lF (lF.put (c := 9) (i := 6) (v := 1) (by omega))).pF a30
    have hD3 : DQ (Y0 X 8) M3 := hD.once (j := 6) (by decide) rfl a3
    have hr0 : rdO (Y0 X 8) := (rdO_pst.mpr (rdK.ad hO)).zu (by decide) (by decide) (by decide)
    refine ⟨by omega, fun _ => ⟨_, r_number hT hB3 a2 (by decide) (by decide), fun r8 M9 h9 => ⟨_, r_number (M := zu M9 3 16 r8) hT ((hB3.pF h9.2.2).lF (lF.put (by omega))) (h9.1.row (Or.inl (by decide))) (by decide) (by decide), fun r13 M14 h14 => ⟨fun q => absurd q hb, fun _ => ?_⟩⟩⟩, fun z => by omega⟩
    obtain ⟨n1, n2, n3⟩ := h9
    obtain ⟨q1, q2, q3⟩ := h14
    have Y4 : Y0 X 8 4 = N0 4 ∧ Y0 X 8 5 = N0 5 ∧ Y0 X 8 6 = N0 6 := ⟨(Y0_o (by decide) (by decide)).trans x4, (Y0_o (by decide) (by decide)).trans x5, (Y0_o (by decide) (by decide)).trans x6⟩
    have e1 : gst (numF 0 16 9 2 (Y0 X 8)) = nmS (N0 4) (N0 5) (N0 6) 0 16 (adS (N0 4) (gst X)) := by
      unfold numF; rw [gst_zu (by decide), nmF_g, Y0_g, Y4.1, Y4.2.1, Y4.2.2, x4]
    have A4 : numF 0 16 9 2 (Y0 X 8) 4 = N0 4 ∧ numF 0 16 9 2 (Y0 X 8) 5 = N0 5 ∧ numF 0 16 9 2 (Y0 X 8) 6 = N0 6 := ⟨(numF_o (by decide) (by decide)).trans Y4.1, (numF_o (by decide) (by decide)).trans Y4.2.1, (numF_o (by decide) (by decide)).trans Y4.2.2⟩
    have e2 : gst (numF 0 16 9 3 (numF 0 16 9 2 (Y0 X 8))) = nmS (N0 4) (N0 5) (N0 6) 0 16 (nmS (N0 4) (N0 5) (N0 6) 0 16 (adS (N0 4) (gst X))) := by
      rw [← e1]
      generalize numF 0 16 9 2 (Y0 X 8) = A at *
      unfold numF; rw [gst_zu (by decide), nmF_g, A4.1, A4.2.1, A4.2.2]
    have lf : lF M M14 := (((lF.put (c := 9) (i := 6) (v := 1) (by omega)).trans (a30.trans n3).lF).trans (lF.put (c := 3) (i := 16) (by omega))).trans q3.lF
    have f19 : M14 1 19 = M 1 19 := by rw [q3.f19, zu_other (by decide), (a30.trans n3).f19, zu_other (by decide)]
    refine ⟨by rw [e2]; exact q1.row (Or.inl (by decide)), fun y => ?_, lf.trans (lF.put (by omega)), by rw [zu_other (by decide)]; exact f19⟩
    rw [e2] at y
    have v2 := q2 y
    have v1 := n2 (nmS_0 y)
    have d1 := DQ.put (v := nmV (Y0 X 8 4) (Y0 X 8 6) 0 16 (gst (Y0 X 8))) (9, 2, 16, 0, 16) ((hD3.pF n3).ps (s := nmS (Y0 X 8 4) (Y0 X 8 5) (Y0 X 8 6) 0 16 (gst (Y0 X 8)))) (by decide) (by decide) (nmV_in hr0 (by decide))
    have e3 : nmV (N0 4) (N0 6) 0 16 (adS (N0 4) (gst X)) = nmV (Y0 X 8 4) (Y0 X 8 6) 0 16 (gst (Y0 X 8)) := by rw [Y0_g, Y4.1, Y4.2.2, x4]
    rw [e3] at v1
    rw [v1] at q3
    have d1' : DQ (numF 0 16 9 2 (Y0 X 8)) M14 := DQ.pF d1 q3
    have rA : rdO (numF 0 16 9 2 (Y0 X 8)) := hr0.num (by decide) (by decide) (by decide)
    rw [v2, ← e1]
    generalize numF 0 16 9 2 (Y0 X 8) = A at *
    have d2 := DQ.put (v := nmV (A 4) (A 6) 0 16 (gst A)) (9, 3, 17, 0, 16) (d1'.ps (s := nmS (A 4) (A 5) (A 6) 0 16 (gst A))) (by decide) (by decide) (nmV_in rA (by decide))
    have e4 : nmV (N0 4) (N0 6) 0 16 (gst A) = nmV (A 4) (A 6) 0 16 (gst A) := by rw [A4.1, A4.2.2]
    rw [e4]; exact d2
end PM
