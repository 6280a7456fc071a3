/-! the class's draft alone stays in its bounds -/
def dJ (X : zM) : Prop := ∃ M : zM, DQ X M
section DJ
variable {g : zG} {o : Bool} {M N N0 M' M0 X X' Y Yf Z : zM} {lo hi k w L v C R n x : Int} {a : Nat} {b : Int → Int} {pos : Nat → Int} {T : Nat} {s s' : Rs} {K Pl V : Int → Int}
theorem dJ.ps (h : dJ X) : dJ (pst X s) := h.elim fun M d => ⟨M, DQ.ps d⟩
theorem dJ.num (e : Nat × Int × Int × Int × Int) (h : dJ X) (hO : rdO X) (he : e ∈ T10) (h86 : ¬ (e.1 = 8 ∧ e.2.1 = 6)) : dJ (numF e.2.2.2.1 e.2.2.2.2 e.1 e.2.1 X) := by
  obtain ⟨M, d⟩ := h
  have r := T10_r e he
  exact ⟨_, DQ.put (v := nmV (X 4) (X 6) e.2.2.2.1 e.2.2.2.2 (gst X)) e (d.ps (s := nmS (X 4) (X 5) (X 6) e.2.2.2.1 e.2.2.2.2 (gst X))) he h86 (nmV_in hO r.2.2.2.2.2.1)⟩
theorem dJ.y0 (h : dJ X) (hk : 0 ≤ k ∧ k ≤ 9) : dJ (Y0 X k) := by
  obtain ⟨M, d⟩ := h
  by_cases q : k = 2 ∨ k = 3
  · exact ⟨_, d.up23 q pF.rf⟩
  · have hj : k = 0 ∨ k = 1 ∨ k = 4 ∨ k = 5 ∨ k = 6 ∨ k = 7 ∨ k = 8 ∨ k = 9 := by omega
    rcases hj with e | e | e | e | e | e | e | e <;> subst e
    · exact ⟨_, d.once (j := 0) (by decide) rfl pF.rf⟩
    · exact ⟨_, d.once (j := 1) (by decide) rfl pF.rf⟩
    · exact ⟨_, d.once (j := 2) (by decide) rfl pF.rf⟩
    · exact ⟨_, d.once (j := 3) (by decide) rfl pF.rf⟩
    · exact ⟨_, d.once (j := 4) (by decide) rfl pF.rf⟩
    · exact ⟨_, d.once (j := 5) (by decide) rfl pF.rf⟩
    · exact ⟨_, d.once (j := 6) (by decide) rfl pF.rf⟩
    · exact ⟨_, d.once (j := 7) (by decide) rfl pF.rf⟩
theorem dJ.hea (h : dJ X) (hO : rdO X) (hc : cI X) (h20 : X 8 5 < 20) : dJ (heaF X) := by
  have hx := xyI_in hO hc
  have hn := geo_n hc.1
  have d3 : dJ (nmF 1 50 (nmF 0 (X 8 1 - 1) (nmF 0 (X 8 0 - 1) X))) := ((h.ps).ps).ps
  have hB : rdO (nmF 0 (X 8 1 - 1) (nmF 0 (X 8 0 - 1) X)) := hO.nm.nm
  have vin := nmV_in (lo := 1) (hi := 50) hB (by decide)
  have e4 : (nmF 0 (X 8 1 - 1) (nmF 0 (X 8 0 - 1) X)) 4 = X 4 := by rw [nmF_o (by decide), nmF_o (by decide)]
  have e6 : (nmF 0 (X 8 1 - 1) (nmF 0 (X 8 0 - 1) X)) 6 = X 6 := by rw [nmF_o (by decide), nmF_o (by decide)]
  rw [e4, e6] at vin
  unfold heaF
  split
  · obtain ⟨M, d⟩ := h
    have e : nmF 1 50 (nmF 0 (X 8 1 - 1) (nmF 0 (X 8 0 - 1) X)) = pst X (gst (nmF 1 50 (nmF 0 (X 8 1 - 1) (nmF 0 (X 8 0 - 1) X)))) := by
      rw [nmF_g]
      show pst (nmF 0 (X 8 1 - 1) (nmF 0 (X 8 0 - 1) X)) _ = _
      unfold nmF
      simp only [pst_pst]
    rw [e]
    exact ⟨_, dq_heap d (by omega) vin h20 pF.rf⟩
  · exact d3
theorem dJ.gra (h : dJ X) : dJ (graF X) := by
  have d2 : dJ (nmF 0 (X 8 1 - 1) (nmF 0 (X 8 0 - 1) X)) := (h.ps).ps
  unfold graF
  split
  · split
    · obtain ⟨M, d⟩ := h
      exact ⟨_, dq_grass d⟩
    · have d1 : dJ (nmF 0 (X 8 0 - 1) X) := h.ps
      obtain ⟨M, d⟩ := d1
      exact ⟨_, dq_grass d⟩
  · exact d2
theorem wl_in : ∀ (f : Nat) (i : Int) (Z : zM), 0 ≤ i → i + f = 8 → (∀ c : Nat, c ≠ 7 → c ≠ 8 → c ≠ 12 → c ≠ 13 → Z c = Y c) → (∀ j : Int, j ≠ 6 → Z 8 j = Y 8 j) → Z 8 6 = i → rdO Z → (Z 7 2 = 0 → ∀ j : Int, 0 ≤ j → j < i → (0 ≤ Z 12 j ∧ Z 12 j ≤ 3) ∧ 1 ≤ Z 13 j ∧ Z 13 j ≤ 99) → (1 ≤ i ∨ Z 7 2 = 0) → winL f i Z 7 2 = 0 → ∃ n : Int, (1 ≤ n ∧ n ≤ 8) ∧ winL f i Z 8 6 = n ∧ (∀ j : Int, 0 ≤ j → j < n → (0 ≤ winL f i Z 12 j ∧ winL f i Z 12 j ≤ 3) ∧ 1 ≤ winL f i Z 13 j ∧ winL f i Z 13 j ≤ 99) ∧ (∀ c : Nat, c ≠ 7 → c ≠ 8 → c ≠ 12 → c ≠ 13 → winL f i Z c = Y c) ∧ ∀ j : Int, j ≠ 6 → winL f i Z 8 j = Y 8 j := by
  intro f
  induction f with
  | zero =>
    intro i Z i0 hi h1 h2 h6 hO he hs h7
    exact ⟨8, by decide, by show Z 8 6 = 8; omega, fun j j0 j1 => he h7 j j0 (by omega), h1, h2⟩
  | succ f ih =>
    intro i Z i0 hi h1 h2 h6 hO he hs h7
    by_cases c : Z 7 2 = 0 ∧ ¬ (0 < i ∧ Z 4 (Z 7 4) = 3)
    · have e : winL (f + 1) i Z = winL f (i + 1) (winB i Z) := by show (if _ then _ else _) = _; rw [if_pos c]
      rw [e] at h7 ⊢
      refine ih (i + 1) (winB i Z) (by omega) (by omega) (fun c a1 a2 a3 a4 => (winB_o a1 a2 a3 a4).trans (h1 c a1 a2 a3 a4)) (fun j hj => (winB_8 hj).trans (h2 j hj)) (by rw [winB_6, h6]) hO.winB (fun z j j0 j1 => ?_) (Or.inl (by omega)) h7
      have z' : (gst (winB i Z)).2.1 = 0 := z
      rw [winB_g] at z'
      have x0 := nmS_0 z'
      have g0 : (gst Z).2.1 = 0 := c.1
      rw [winB_12, winB_13]
      by_cases q : j = i
      · subst q
        rw [if_pos rfl, if_pos rfl]
        have wc : wayC Z ≠ 0 := fun y => by
          unfold xpS at x0; rw [if_pos g0, if_pos y] at x0; exact rt_n g0 x0
        have wi : Z 4 (Z 7 4) = 1 ∧ 10 ≤ Z 6 (Z 7 4) ∧ Z 6 (Z 7 4) ≤ 13 := Classical.byContradiction fun y => wc (by unfold wayC; rw [if_neg y])
        have vin := nmV_in (lo := 1) (hi := 99) (rdK.xp (Pl := Z 5) (c := wayC Z) hO) (by decide)
        exact ⟨by omega, vin⟩
      · rw [if_neg q, if_neg q]; exact he c.1 j j0 (by omega)
    · have e : winL (f + 1) i Z = Z := by show (if _ then _ else _) = _; rw [if_neg c]
      rw [e] at h7 ⊢
      have i1 : 0 < i := Classical.byContradiction fun y => c ⟨h7, fun u => y u.1⟩
      exact ⟨i, by omega, h6, fun j j0 j1 => he h7 j j0 j1, h1, h2⟩
theorem dJ.win (h : dJ X) (hO : rdO X) (h0 : X 7 2 = 0) (h7 : winL 8 0 (zu X 8 6 0) 7 2 = 0) : dJ (winL 8 0 (zu X 8 6 0)) := by
  obtain ⟨M, d⟩ := h
  have e7 : zu X 8 6 0 7 2 = 0 := by rw [zu_other (by decide)]; exact h0
  obtain ⟨n, hn, h6, he, f1, f2⟩ := wl_in (Y := X) 8 0 (zu X 8 6 0) (by decide) (by decide) (fun c a1 a2 a3 a4 => zu_other a2) (fun j hj => by rw [zu_row, if_neg hj]) (zu_at _ _ _ _) (hO.zu (by decide) (by decide) (by decide)) (fun _ j j0 j1 => by omega) (Or.inr e7) h7
  generalize winL 8 0 (zu X 8 6 0) = W at *
  refine ⟨_, wn_dq (M := zrw (zrw M 4 (fun i => if i < 8 then M 4 i else W 12 (i - 8))) 5 (fun i => if i < 8 then M 5 i else W 13 (i - 8))) d ⟨f1, f2, fun c a1 a4 a5 => by rw [zrw_other a5, zrw_other a4], by rw [zrw_other (by decide), zrw_other (by decide)], by rw [zrw_other (by decide), zrw_other (by decide)], ?_⟩ h6 hn (fun j j0 j1 => ?_)⟩
  · refine ⟨fun c hc => by rw [zrw_other (by omega), zrw_other (by omega)], fun i _ => by rw [zrw_other (by decide), zrw_other (by decide)], fun i hi => ⟨?_, ?_⟩, fun i _ => by rw [zrw_other (by decide), zrw_other (by decide), zrw_other (by decide), zrw_other (by decide)]; exact ⟨rfl, rfl⟩, fun i _ => by rw [zrw_other (by decide), zrw_other (by decide)]⟩
    · rw [zrw_other (by decide), zrw_row, if_pos hi]
    · rw [zrw_row, if_pos hi]
  · rw [zrw_other (by decide), zrw_row, zrw_row, if_neg (by omega), if_neg (by omega), show 8 + j - 8 = j by omega]
    exact ⟨rfl, rfl, he j j0 j1⟩
theorem dJ.res (h : dJ X) (hO : rdO X) (hc : cI X) (h0 : X 7 2 = 0) (hx : 0 ≤ x ∧ x ≤ 9) (h2 : x = 2 → X 8 5 < 20) : resF x X 7 2 = 0 → dJ (resF x X) := by
  suffices hs : (x = 2 → X 8 5 < 20) → resF x X 7 2 = 0 → dJ (resF x X) from hs h2
  have hA : rdO (numF 3 12 8 0 X) := hO.num (by decide) (by decide) (by decide)
  refine res_c (P := fun x Z => (x = 2 → X 8 5 < 20) → Z 7 2 = 0 → dJ Z) (fun _ _ => ?_) (fun _ _ => h.num (8, 2, 12, 0, 9) hO (by decide) (by decide)) (fun y _ => h.hea hO hc (y rfl)) (fun _ _ => h.gra) (fun _ z => h.win hO h0 z) (fun _ _ => h.num (9, 0, 13, 1, 6) hO (by decide) (by decide)) (fun _ _ => h.num (9, 1, 14, 1, 9) hO (by decide) (by decide)) (fun _ _ => h.num (8, 3, 15, 1, 9) hO (by decide) (by decide)) (fun _ _ => (h.num (9, 2, 16, 0, 16) hO (by decide) (by decide)).num (9, 3, 17, 0, 16) (hO.num (by decide) (by decide) (by decide)) (by decide) (by decide)) (fun _ _ => h.num (8, 4, 18, 0, 9999) hO (by decide) (by decide)) hx
  have d1 : dJ (byF (numF 3 12 8 0 X)) := (h.num (8, 0, 10, 3, 12) hO (by decide) (by decide)).ps
  exact d1.num (8, 1, 11, 1, 8) hA.by_ (by decide) (by decide)
theorem rt_72 (h : X 7 2 = 0) : (gst X).2.1 = 0 := h
theorem dJ.lin (h : dJ X) (hO : rdO X) (hc : cI X) (h0 : X 7 2 = 0) (h7 : linF n X 7 2 = 0) : dJ (linF n X) := by
  have g0 : (gst X).2.1 = 0 := h0
  have h7' : (gst (linF n X)).2.1 = 0 := h7
  have hb : lnbF n X 7 2 = 0 := by
    unfold linF sgF at h7'
    rw [gst_pst] at h7'
    exact xpS_0 h7'
  have hb' : (gst (lnbF n X)).2.1 = 0 := hb
  suffices hd : dJ (lnbF n X) from hd.ps
  by_cases a : lnW X < 0 ∨ 9 < lnW X
  · rw [(lnb5 (n := n) a).2, gst_pst] at hb'; exact absurd hb' (rt_n g0)
  · by_cases c : (lnW X = 0 ∧ 0 < n) ∨ (lnW X = 2 ∧ 20 ≤ X 8 5)
    · rw [(lnb2 a c).2, gst_pst] at hb'; exact absurd hb' (rf_n g0 (by decide))
    · by_cases u : lnW X ≠ 2 ∧ lnW X ≠ 3 ∧ bt (X 8 7) (lnW X)
      · rw [(lnb3 a c u).2, gst_pst] at hb'; exact absurd hb' (rf_n g0 (by decide))
      · rw [(lnb0 a c u).2] at hb ⊢
        have hk : 0 ≤ lnW X ∧ lnW X ≤ 9 := by omega
        have y0 : Y0 X (lnW X) 7 2 = 0 := by
          have : (gst (Y0 X (lnW X))).2.1 = 0 := by rw [Y0_g, ad_w]; exact g0
          exact this
        exact (h.y0 hk).res hO.y0 (cI_y0 hc hk) y0 hk (fun z => by rw [Y0_8 (by decide)]; omega) hb
theorem dJ.rdl : ∀ (f : Nat) (n : Int) (X : zM), rdO X → cI X → (X 7 2 = 0 → dJ X) → rdL f n X 7 2 = 0 → dJ (rdL f n X) := by
  intro f
  induction f with
  | zero => intro n X hO hc h h7; exact h h7
  | succ f ih =>
    intro n X hO hc h h7
    by_cases c : X 7 2 = 0 ∧ X 4 (X 7 4) ≠ 0
    · have e : rdL (f + 1) n X = rdL f (n + 1) (linF n X) := by show (if _ then _ else _) = _; rw [if_pos c]
      rw [e] at h7 ⊢
      have kp := ln_kp (n := n) hO hc
      exact ih _ _ kp.1 kp.2.1 (fun z => (h c.1).lin hO hc c.1 z) h7
    · have e : rdL (f + 1) n X = X := by show (if _ then _ else _) = _; rw [if_neg c]
      rw [e] at h7 ⊢; exact h h7
/-- before any line, beside a reference that begins -/
def bgP (N : zM) : Prop := (N 3 10 = 8 ∧ N 3 11 = 4 ∧ N 3 12 = 3 ∧ N 3 13 = 2 ∧ N 3 14 = 2 ∧ N 3 15 = 2 ∧ N 3 16 = 10 ∧ N 3 17 = 6 ∧ N 3 18 = 0 ∧ N 3 19 = 1) ∧ N 4 8 = 0 ∧ N 5 8 = 1 ∧ (∀ c : Int, 0 ≤ c → c < 96 → N 6 (96 + c) = 0 ∧ N 7 (96 + c) = 0) ∧ (∀ i : Int, 0 ≤ i → i < 8 → N 9 i = 0) ∧ N 1 19 = 0 ∧ N 1 20 = 0
theorem bg_dq (h : clP X) (hb : bgP M) : DQ X M := by
  obtain ⟨⟨h0, h1, h2, h3, h4, h5, h6, h7⟩, ⟨r0, r1, r2, r3⟩, hz, w0, w1⟩ := h
  obtain ⟨⟨t0, t1, t2, t3, t4, t5, t6, t7, t8, t9⟩, b4, b5, b6, b9, b19, b20⟩ := hb
  refine ⟨fun e he => ?_, fun i i0 i1 => ?_, fun c c0 c1 => ?_, ⟨by omega, by omega, ?_⟩, by omega, fun i hi => ?_⟩
  · simp only [T10, List.mem_cons, List.not_mem_nil, or_false] at he
    rcases he with q | q | q | q | q | q | q | q | q | q <;> subst q <;> simp only [] <;> omega
  · rw [h6] at i1
    have : i = 0 := by omega
    subst this
    show M 4 8 = _ ∧ M 5 8 = _ ∧ _
    rw [b4, b5, w0, w1]; decide
  · rw [(b6 c c0 c1).1, (b6 c c0 c1).2, (hz c c0 c1).1, (hz c c0 c1).2]; decide
  · have := smt_le (f := X 10) (B := 0) (n := 96) (fun i a c => by rw [(hz i a (by omega)).1]; decide)
    omega
  · rw [b9 i (by omega) (by omega), h7]
    refine ⟨Or.inl rfl, fun z => absurd z (by decide), fun z => ?_⟩
    unfold bt at z
    rw [Int.zero_ediv] at z; exact absurd z (by decide)
theorem clP.dJ (h : clP X) : dJ X := by
  refine ⟨fun c i => if c = 3 then (if i = 10 then 8 else if i = 11 then 4 else if i = 12 then 3 else if i = 13 then 2 else if i = 14 then 2 else if i = 15 then 2 else if i = 16 then 10 else if i = 17 then 6 else if i = 18 then 0 else 1) else if c = 5 then 1 else 0, bg_dq h ?_⟩
  refine ⟨by simp, by simp, by simp, fun c c0 c1 => by simp, fun i i0 i1 => by simp, by simp, by simp⟩
theorem dJ.ok (h : dJ X) : dOK X (X 8 0) (X 8 1) := by
  obtain ⟨M, h1, h2, h3, h4, h5⟩ := h
  have e0 := h1 (8, 0, 10, 3, 12) (by decide)
  have e1 := h1 (8, 1, 11, 1, 8) (by decide)
  have e2 := h1 (8, 2, 12, 0, 9) (by decide)
  have e3 := h1 (9, 0, 13, 1, 6) (by decide)
  have e4 := h1 (9, 1, 14, 1, 9) (by decide)
  have e5 := h1 (8, 3, 15, 1, 9) (by decide)
  have e6 := h1 (9, 2, 16, 0, 16) (by decide)
  have e7 := h1 (9, 3, 17, 0, 16) (by decide)
  have e8 := h1 (8, 4, 18, 0, 9999) (by decide)
  have e9 := h1 (8, 6, 19, 1, 8) (by decide)
  refine ⟨⟨e0.2.1, e0.2.2, e1.2.1, e1.2.2⟩, rfl, rfl, e2.2, e5.2, e8.2, e9.2, fun i a c => (h2 i a c).2.2, ⟨e3.2, e4.2, e6.2, e7.2⟩, fun c a d => ?_, ?_⟩
  · have := h3 c a d; exact ⟨this.2.1, this.2.2.2⟩
  · have := h4.2; omega
end DJ
