/-! wind lines, and how a line ends -/
def sgS (N0 : zM) (s : Rs) : Rs := xpS (N0 4) (N0 5) (if N0 4 s.1 = 3 then 1 else 0) s
def LPw (N0 : zM) (pos : Nat → Int) (T : Nat) (M Y N : zM) : Prop := (∃ s', RLk N0 pos T s' N ∧ sgS N0 s' = sgS N0 (gst Y)) ∧ ((sgS N0 (gst Y)).2.1 = 0 → DQ Y N ∧ N 1 19 = M 1 19) ∧ lF M N
/-- along a wind's line -/
def wFr (Y Z M3 M : zM) : Prop := (∀ c : Nat, c ≠ 7 → c ≠ 8 → c ≠ 12 → c ≠ 13 → Z c = Y c) ∧ (∀ j : Int, j ≠ 6 → Z 8 j = Y 8 j) ∧ (∀ c : Nat, c ≠ 1 → c ≠ 4 → c ≠ 5 → M c = M3 c) ∧ M 1 19 = M3 1 19 ∧ M 1 20 = M3 1 20 ∧ lF M3 M
section PQ
variable {g : zG} {o : Bool} {M N N0 M' M3 X X' Y Z : zM} {lo hi k w L v C R n : Int} {b : Int → Int} {pos : Nat → Int} {T : Nat} {s s' : Rs} {K Pl V : Int → Int}
theorem sgS_0 (h : (sgS N0 s).2.1 = 0) : s.2.1 = 0 := xpS_0 h
theorem sgS_f (h : s.2.1 ≠ 0) : sgS N0 s = s := by unfold sgS xpS; rw [if_neg h]
theorem sgS_n (h : s.2.1 = 0) (hk : N0 4 s.1 ≠ 3) : sgS N0 s = rtS (N0 4) (N0 5) s := by unfold sgS xpS; rw [if_pos h, if_neg hk, if_pos rfl]
theorem LPo.up (h : LPo N0 pos T M Y N) : LPw N0 pos T M Y N := ⟨⟨_, h.1, rfl⟩, fun z => ⟨h.2.1 (sgS_0 z), h.2.2.2⟩, h.2.2.1⟩
theorem LPw_f (h : RLk N0 pos T s N) (h0 : s.2.1 ≠ 0) (e : gst Y = s) (hf : lF M N) : LPw N0 pos T M Y N := ⟨⟨s, h, by rw [e]⟩, fun z => by rw [e] at z; exact absurd (sgS_0 z) h0, hf⟩
theorem wn_dq (hD : DQ Y M3) (hF : wFr Y Z M3 M) (h6 : Z 8 6 = n) (hn : 1 ≤ n ∧ n ≤ 8) (hw : ∀ j : Int, 0 ≤ j → j < n → M 4 (8 + j) = Z 12 j ∧ M 5 (8 + j) = Z 13 j ∧ (0 ≤ Z 12 j ∧ Z 12 j ≤ 3) ∧ 1 ≤ Z 13 j ∧ Z 13 j ≤ 99) : DQ Z (zu M 3 19 n) := by
  obtain ⟨h1, h2, h3, h4, h5⟩ := hD
  obtain ⟨f1, f2, f3, f4, f5, f6⟩ := hF
  refine ⟨fun e he => ?_, fun j j0 j1 => ?_, h3.of (f1 10 (by decide) (by decide) (by decide) (by decide)) (f1 11 (by decide) (by decide) (by decide) (by decide)) ((zu_other (by decide)).trans (f3 6 (by decide) (by decide) (by decide))) ((zu_other (by decide)).trans (f3 7 (by decide) (by decide) (by decide))), h4.of (f2 5 (by decide)) (f1 10 (by decide) (by decide) (by decide) (by decide)) (by rw [zu_other (by decide)]; exact f5), h5.of (f2 7 (by decide)) ((zu_other (by decide)).trans (f3 9 (by decide) (by decide) (by decide)))⟩
  · by_cases q : e = (8, 6, 19, 1, 8)
    · subst q
      show zu M 3 19 n 3 19 = Z 8 6 ∧ 1 ≤ Z 8 6 ∧ Z 8 6 ≤ 8
      rw [zu_at, h6]; exact ⟨rfl, hn⟩
    · have d := T10_d (8, 6, 19, 1, 8) (by decide) e he
      have r := T10_r e he
      have y := h1 e he
      have a : Z e.1 e.2.1 = Y e.1 e.2.1 := by
        rcases r.1 with z | z
        · rw [z]; exact f2 _ (fun x => q (d.2 z x))
        · rw [z]; rw [f1 9 (by decide) (by decide) (by decide) (by decide)]
      rw [a, zu_row, if_neg (fun x => q (d.1 x)), f3 3 (by decide) (by decide) (by decide)]; exact y
  · rw [h6] at j1
    rw [zu_other (by decide), zu_other (by decide)]; exact hw j j0 j1
theorem winB_g {i : Int} : gst (winB i Z) = nmS (Z 4) (Z 5) (Z 6) 1 99 (xpS (Z 4) (Z 5) (wayC Z) (gst Z)) := by
  unfold winB numF winA
  rw [gst_zu (by decide), gst_zu (by decide), nmF_g, gst_zu (by decide), gst_pst, zu_other (by decide), zu_other (by decide), zu_other (by decide), pst_o (by decide), pst_o (by decide), pst_o (by decide)]
theorem winB_o {i : Int} {c : Nat} (h7 : c ≠ 7) (h8 : c ≠ 8) (h12 : c ≠ 12) (h13 : c ≠ 13) : winB i Z c = Z c := by
  unfold winB winA
  rw [zu_other h8, numF_o h7 h13, zu_other h12, pst_o h7]
theorem winB_8 {i j : Int} (h : j ≠ 6) : winB i Z 8 j = Z 8 j := by
  unfold winB winA
  rw [zu_row, if_neg h, numF_o (by decide) (by decide), zu_other (by decide), pst_o (by decide)]
theorem winB_6 {i : Int} : winB i Z 8 6 = Z 8 6 + 1 := by unfold winB; rw [zu_at]
theorem winB_12 {i j : Int} : winB i Z 12 j = if j = i then Z 6 (Z 7 4) - 10 else Z 12 j := by
  unfold winB winA
  rw [zu_other (by decide), numF_o (by decide) (by decide), zu_row, pst_o (by decide)]
theorem winB_13 {i j : Int} : winB i Z 13 j = if j = i then nmV (Z 4) (Z 6) 1 99 (xpS (Z 4) (Z 5) (wayC Z) (gst Z)) else Z 13 j := by
  unfold winB numF winA
  rw [zu_other (by decide), zu_row, nmF_o (by decide), zu_other (by decide), zu_other (by decide), zu_other (by decide), pst_o (by decide), pst_o (by decide), pst_o (by decide), gst_zu (by decide), gst_pst]
theorem winL_f {f : Nat} {i : Int} (h : Z 7 2 ≠ 0) : winL f i Z = Z := by
  cases f with
  | zero => rfl
  | succ f => show (if _ then _ else _) = _; rw [if_neg (fun z => h z.1)]
theorem r_wind24 (hT : TS b L N0 pos T) (hD : DQ Y M3) (hl : lF M' M3) (h19 : M3 1 19 = M' 1 19) : ∀ f : Nat, ∀ i : Int, 0 ≤ i → i + f = 8 → ∀ Z M : zM, RBx b L M → RLk N0 pos T (gst Z) M → (Z 4 = N0 4 ∧ Z 5 = N0 5 ∧ Z 6 = N0 6) → rdO Z → Z 8 6 = i → wFr Y Z M3 M → ((gst Z).2.1 = 0 → ∀ j : Int, 0 ≤ j → j < i → M 4 (8 + j) = Z 12 j ∧ M 5 (8 + j) = Z 13 j ∧ (0 ≤ Z 12 j ∧ Z 12 j ≤ 3) ∧ 1 ≤ Z 13 j ∧ Z 13 j ≤ 99) → ((gst Z).2.1 = 0 → i = 0 → wyR M ≠ -1) → ∀ q : zM → Prop, (∀ N : zM, LPw N0 pos T M' (winL f i Z) N → q N) → zT g (z2 o) mX10_windLine (zQv (z2 o) q) 24 [(0, zA g 1), (1, zI i)] [] M := by
  intro f
  induction f with
  | zero =>
    intro i i0 hi Z M hB hR hz hO h6 hF hw hy q hq
    have hi8 : i = 8 := by omega
    have wz := hR.wz
    have wy := r_way hR
    have lf : lF M' M := hl.trans hF.2.2.2.2.2
    have g0 : (gst Z).2.1 = Z 7 2 := rfl
    refine SX10_windLine_24 ⟨hR.1, fun z => hq _ ?_, fun z => ⟨by omega, fun y => hq _ ?_, fun y => ⟨by omega, fun q => absurd hi8 q, fun _ N26 e => hq _ ?_⟩⟩⟩
    · exact LPw_f (hR.row (Or.inl (by decide))) (fun q => z (wz.1.mp q)) rfl (lf.trans (lF.put (by omega)))
    · have z0 := wz.1.mpr z
      exact ⟨⟨_, hR.row (Or.inl (by decide)), rfl⟩, fun _ => ⟨wn_dq hD hF h6 (by omega) (hw z0), by rw [zu_other (by decide), hF.2.2.2.1]; exact h19⟩, lf.trans (lF.put (by omega))⟩
    · subst e
      have z0 := wz.1.mpr z
      have r := r_wr (k := 2) hR (by decide)
      have yy := Classical.not_not.mp (fun q => y (wy.1.mpr q))
      have es : sgS N0 (gst Z) = rtS (N0 4) (N0 5) (gst Z) := sgS_n z0 (by rw [yy.2.1]; decide)
      have rf : (rtS (N0 4) (N0 5) (gst Z)).2.1 ≠ 0 := rt_n z0
      refine ⟨⟨rtS (N0 4) (N0 5) (gst Z), r, ?_⟩, fun q => ?_, lf.trans wr_pF.lF⟩
      · show sgS N0 _ = sgS N0 (gst Z)
        rw [es, sgS_f rf]
      · change (sgS N0 (gst Z)).2.1 = 0 at q
        rw [es] at q; exact absurd q rf
  | succ f ih =>
    intro i i0 hi Z M hB hR hz hO h6 hF hw hy q hq
    have hi8 : i < 8 := by omega
    have wz := hR.wz
    have wy := r_way hR
    have lf : lF M' M := hl.trans hF.2.2.2.2.2
    have g0 : (gst Z).2.1 = Z 7 2 := rfl
    have g4 : (gst Z).1 = Z 7 4 := rfl
    refine SX10_windLine_24 ⟨hR.1, fun z => hq _ ?_, fun z => ⟨by omega, fun y => hq _ ?_, fun y => ⟨by omega, fun _ => ⟨by omega, ?_⟩, fun q => by omega⟩⟩⟩
    · rw [winL_f (fun q => z (wz.1.mp q))]
      exact LPw_f (hR.row (Or.inl (by decide))) (fun q => z (wz.1.mp q)) rfl (lf.trans (lF.put (by omega)))
    · have z0 := wz.1.mpr z
      have yy := wy.1.mp y
      have i1 : 0 < i := by
        rcases Int.lt_or_le 0 i with q | q
        · exact q
        · exact absurd y (hy z0 (by omega))
      by_cases k3 : N0 4 (gst Z).1 = 3
      · have e : winL (f + 1) i Z = Z := by
          show (if _ then _ else _) = _
          rw [if_neg (fun q => q.2 ⟨i1, by rw [hz.1, ← g4]; exact k3⟩)]
        rw [e]
        exact ⟨⟨_, hR.row (Or.inl (by decide)), rfl⟩, fun _ => ⟨wn_dq hD hF h6 (by omega) (hw z0), by rw [zu_other (by decide), hF.2.2.2.1]; exact h19⟩, lf.trans (lF.put (by omega))⟩
      · have wc : wayC Z = 0 := by
          unfold wayC; rw [hz.1, hz.2.2, ← g4, if_neg (fun q => yy ⟨z0, q.1, q.2.1, q.2.2⟩)]
        have rf : (rtS (N0 4) (N0 5) (gst Z)).2.1 ≠ 0 := rt_n z0
        have eb : gst (winB i Z) = rtS (N0 4) (N0 5) (gst Z) := by
          rw [winB_g, wc, hz.1, hz.2.1, hz.2.2]
          have : xpS (N0 4) (N0 5) 0 (gst Z) = rtS (N0 4) (N0 5) (gst Z) := by unfold xpS; rw [if_pos z0, if_pos rfl]
          rw [this]; unfold nmS; rw [if_neg rf]
        have e : winL (f + 1) i Z = winB i Z := by
          show (if _ then _ else _) = _
          rw [if_pos ⟨by rw [← g0]; exact z0, fun q => k3 (by rw [g4, ← hz.1]; exact q.2)⟩]
          exact winL_f (by show (gst (winB i Z)).2.1 ≠ 0; rw [eb]; exact rf)
        rw [e]
        refine ⟨⟨_, hR.row (Or.inl (by decide)), by rw [eb, sgS_f rf, sgS_n z0 k3]⟩, fun q => ?_, lf.trans (lF.put (by omega))⟩
        rw [eb, sgS_f rf] at q; exact absurd q rf
    · have z0 := wz.1.mpr z
      have yy := Classical.not_not.mp (fun q => y (wy.1.mpr q))
      have wv := wy.2.1 y
      refine ⟨_, r_goOn (M := zu M 4 (8 + i) (wyR M)) hT (hB.lF (lF.put (by omega))) (hR.row (Or.inl (by decide))) z0 (by rw [yy.2.1]; decide), fun M16 h16 => ⟨_, r_number hT ((hB.lF (lF.put (by omega))).pF h16.2) h16.1 (by decide) (by decide), fun r20 M21 h21 => ?_⟩⟩
      have p := h16.2.trans h21.2.2
      have wc : wayC Z = 1 := by
        unfold wayC; rw [hz.1, hz.2.2, ← g4, if_pos ⟨yy.2.1, yy.2.2.1, yy.2.2.2⟩]
      have ex : xpS (Z 4) (Z 5) (wayC Z) (gst Z) = adS (N0 4) (gst Z) := by rw [wc, hz.1]; unfold xpS; rw [if_pos z0, if_neg (by decide)]
      have eb : gst (winB i Z) = nmS (N0 4) (N0 5) (N0 6) 1 99 (adS (N0 4) (gst Z)) := by rw [winB_g, ex, hz.1, hz.2.1, hz.2.2]
      have e : winL (f + 1) i Z = winL f (i + 1) (winB i Z) := by
        show (if _ then _ else _) = _
        rw [if_pos ⟨by rw [← g0]; exact z0, fun q => by have := q.2; rw [hz.1, ← g4, yy.2.1] at this; exact absurd this (by decide)⟩]
      rw [e] at hq
      have bo : ∀ c : Nat, c ≠ 7 → c ≠ 8 → c ≠ 12 → c ≠ 13 → winB i Z c = Z c := fun c a1 a2 a3 a4 => winB_o a1 a2 a3 a4
      have hOa : rdK (N0 4) (N0 6) (adS (N0 4) (gst Z)) := by have := rdK.ad hO; rw [hz.1, hz.2.2] at this; exact this
      have vin := nmV_in (lo := 1) (hi := 99) hOa (by decide)
      obtain ⟨f1, f2, f3, f4, f5, f6⟩ := hF
      have r21 : RLk N0 pos T (gst (winB i Z)) (zu M21 5 (8 + i) r20) := by rw [eb]; exact h21.1.row (Or.inl (by decide))
      refine ih (i + 1) (by omega) (by omega) (winB i Z) (zu M21 5 (8 + i) r20) (((hB.lF (lF.put (by omega))).pF p).lF (lF.put (by omega))) r21 ⟨(bo 4 (by decide) (by decide) (by decide) (by decide)).trans hz.1, (bo 5 (by decide) (by decide) (by decide) (by decide)).trans hz.2.1, (bo 6 (by decide) (by decide) (by decide) (by decide)).trans hz.2.2⟩ hO.winB (by rw [winB_6, h6]) ⟨fun c a1 a2 a3 a4 => (bo c a1 a2 a3 a4).trans (f1 c a1 a2 a3 a4), fun j hj => (winB_8 hj).trans (f2 j hj), fun c a1 a4 a5 => ?_, ?_, ?_, ?_⟩ (fun nz j j0 j1 => ?_) (fun _ q => by omega) q hq
      · rw [zu_other a5, p.1 c a1, zu_other a4, f3 c a1 a4 a5]
      · rw [zu_other (by decide), p.f19, zu_other (by decide), f4]
      · rw [zu_other (by decide), p.f20, zu_other (by decide), f5]
      · exact ((f6.trans (lF.put (c := 4) (i := 8 + i) (v := wyR M) (by omega))).trans p.lF).trans (lF.put (by omega))
      · rw [eb] at nz
        rw [winB_12, winB_13, ex, hz.1, hz.2.2, zu_other (by decide), zu_row, p.1 4 (by decide), p.1 5 (by decide), zu_row, zu_other (by decide), h21.2.1 nz]
        by_cases q : j = i
        · subst q
          rw [if_pos rfl, if_pos rfl, if_pos rfl, if_pos rfl, wv, ← g4]
          exact ⟨rfl, rfl, by omega, vin⟩
        · have q' : ¬ (8 + j = 8 + i) := by omega
          simp only [if_neg q, if_neg q']; exact hw z0 j j0 (by omega)
theorem r_wind (H : LB N0 pos T b L X M) : zKv g (z2 o) mX10_windLine [zA g 1] M (fun N => (bt (X 8 7) 4 → RLk N0 pos T (rfS (N0 5) 3 (gst X).1 (gst X)) N ∧ lF M N) ∧ (¬ bt (X 8 7) 4 → LPw N0 pos T M (winL 8 0 (zu (Y0 X 4) 8 6 0)) N)) := by
  obtain ⟨hT, hB, hR, h0, hk1, ⟨x4, x5, x6⟩, hD, hO⟩ := H
  have hs := hD.2.2.2.2.2 2 (by decide)
  change (M 9 2 = 0 ∨ M 9 2 = 1) ∧ (M 9 2 = 1 ↔ bt (X 8 7) 4) at hs
  refine zkv_of rfl (Nat.le_of_ble_eq_true rfl) (SX10_windLine_0 ⟨_, r_once hT hB hR h0 hk1 (i := 2) (by decide) hs.1, fun r2 M3 h3 => ?_⟩)
  by_cases hb : bt (X 8 7) 4
  · obtain ⟨a1, a2, a3⟩ := h3.1 (hs.2.mpr hb)
    exact ⟨by omega, fun z => absurd a1 z, fun _ => ⟨fun _ => ⟨a2, a3.lF⟩, fun z => absurd hb z⟩⟩
  · have m0 : M 9 2 = 0 := by
      rcases hs.1 with z | z
      · exact z
      · exact absurd (hs.2.mp z) hb
    obtain ⟨a1, a2, a3⟩ := h3.2 m0
    have a30 : pF (zu M 9 2 1) M3 := a3
    have l3 : lF M M3 := (lF.put (c := 9) (i := 2) (v := 1) (by omega)).trans a30.lF
    have hB3 : RBx b L M3 := hB.lF l3
    have hD3 : DQ (Y0 X 4) M3 := hD.once (j := 2) (by decide) rfl a3
    have hr0 : rdO (Y0 X 4) := (rdO_pst.mpr (rdK.ad hO)).zu (by decide) (by decide) (by decide)
    have f19 : M3 1 19 = M 1 19 := by rw [a30.f19, zu_other (by decide)]
    let Z : zM := zu (Y0 X 4) 8 6 0
    have eZ : gst Z = adS (N0 4) (gst X) := by show gst (zu (Y0 X 4) 8 6 0) = _; rw [gst_zu (by decide), Y0_g, x4]
    have zo : ∀ c : Nat, c ≠ 8 → Z c = Y0 X 4 c := fun c hc => zu_other hc
    have Z4 : Z 4 = N0 4 ∧ Z 5 = N0 5 ∧ Z 6 = N0 6 := ⟨(zo 4 (by decide)).trans ((Y0_o (by decide) (by decide)).trans x4), (zo 5 (by decide)).trans ((Y0_o (by decide) (by decide)).trans x5), (zo 6 (by decide)).trans ((Y0_o (by decide) (by decide)).trans x6)⟩
    have rZ : rdO Z := hr0.zu (by decide) (by decide) (by decide)
    have Z6 : Z 8 6 = 0 := zu_at _ _ _ _
    have Z8 : ∀ j : Int, j ≠ 6 → Z 8 j = Y0 X 4 8 j := fun j hj => by show zu (Y0 X 4) 8 6 0 8 j = _; rw [zu_row, if_neg hj]
    rw [← eZ] at a2
    have wz := a2.wz
    have z0 : (gst Z).2.1 = 0 := by rw [eZ, ad_w]; exact h0
    have wy := r_way a2
    have loop := r_wind24 (g := g) (o := o) (Y := Y0 X 4) (M' := M) (M3 := M3) hT hD3 l3 f19
    have wk : ∀ N : zM, LPw N0 pos T M (winL 8 0 Z) N → ((bt (X 8 7) 4 → RLk N0 pos T (rfS (N0 5) 3 (gst X).1 (gst X)) N ∧ lF M N) ∧ (¬ bt (X 8 7) 4 → LPw N0 pos T M (winL 8 0 (zu (Y0 X 4) 8 6 0)) N)) := fun N h => ⟨fun q => absurd q hb, fun _ => h⟩
    refine ⟨by omega, fun _ => ⟨a2.1, by omega, fun y => ?_, fun y N14 e => ?_⟩, fun z => by omega⟩
    · exact loop 8 0 (by decide) (by decide) Z M3 hB3 a2 Z4 rZ Z6 ⟨fun c _ a8 _ _ => zo c a8, Z8, fun _ _ _ _ => rfl, rfl, rfl, lF.rf⟩ (fun _ j j0 j1 => by omega) (fun _ _ => y) _ wk
    · subst e
      have r := r_wr (k := 2) a2 (by decide)
      have rf : (rtS (N0 4) (N0 5) (gst Z)).2.1 ≠ 0 := rt_n z0
      have yy := wy.1.mp y
      have wc : wayC Z = 0 := by
        unfold wayC; rw [Z4.1, Z4.2.2, if_neg (fun q => yy ⟨z0, q.1, q.2.1, q.2.2⟩)]
      have eb : gst (winB 0 Z) = rtS (N0 4) (N0 5) (gst Z) := by
        rw [winB_g, wc, Z4.1, Z4.2.1, Z4.2.2]
        have : xpS (N0 4) (N0 5) 0 (gst Z) = rtS (N0 4) (N0 5) (gst Z) := by unfold xpS; rw [if_pos z0, if_pos rfl]
        rw [this]; unfold nmS; rw [if_neg rf]
      have e : winL 8 0 Z = winB 0 Z := by
        show (if _ then _ else _) = _
        rw [if_pos ⟨z0, fun q => absurd q.1 (by decide)⟩]
        exact winL_f (by show (gst (winB 0 Z)).2.1 ≠ 0; rw [eb]; exact rf)
      have r' : RLk N0 pos T (rtS (N0 4) (N0 5) (gst Z)) (wrM 2 M3) := r
      have rz := r'.wz
      refine SX10_windLine_24 ⟨r.1, fun _ => wk _ ?_, fun q => absurd (rz.1.mpr q) rf⟩
      rw [e]
      exact LPw_f (r'.row (Or.inl (by decide))) rf eb ((l3.trans wr_pF.lF).trans (lF.put (by omega)))
end PQ
