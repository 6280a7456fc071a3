/-! field on both sides -/
section FJ
variable {g g' : zG} {o o' : Bool} {M N N0 M' M0 M1 M2 N1 N2 X Y Yf Z : zM} {k L v C R n x : Int} {b : Int → Int} {pos : Nat → Int} {T : Nat} {s : Rs}
/-- a text that was wrong leaves all as it was -/
theorem jt_fld (hJ : Jt k C R M1 M2) (hk : k < 1000) (n1 : ∀ c : Nat, 13 < c → N1 c = M1 c) (n2 : ∀ c : Nat, c = 8 ∨ 10 ≤ c → N2 c = M2 c) (l3 : ∀ i : Int, i < 10 → N2 3 i = M2 3 i) (l45 : ∀ i : Int, i < 8 → N2 4 i = M2 4 i ∧ N2 5 i = M2 5 i) (l67 : ∀ i : Int, i < 96 → N2 6 i = M2 6 i ∧ N2 7 i = M2 7 i) (f : ∀ i : Int, 21 ≤ i → N2 1 i = M2 1 i) (hP : jP N1 N2) (hC : jC N1 N2) : Jt (k + 1) C R N1 N2 := by
  obtain ⟨a0, a1, a2, a3, a4, a5, a6, -, -⟩ := hJ
  have et : ∀ sd : Int, tld N2 sd = tld M2 sd := fun sd => by
    funext i
    unfold tld
    rw [n2 8 (Or.inl rfl), l3 3 (by decide), l3 4 (by decide), l3 6 (by decide), l3 7 (by decide)]
    by_cases q : i < 96
    · rw [if_pos q, if_pos q]
    · by_cases q' : i < 192
      · rw [if_neg q, if_neg q, if_pos q', if_pos q', (l67 (i - 96) (by omega)).2]
      · rw [if_neg q, if_neg q, if_neg q', if_neg q']
  have jl : jL C R N1 N2 := by
    obtain ⟨hl, hr, h5, h9, hw⟩ := a1
    have h14 := hl.2.2.2.2.2.1
    refine ⟨?_, ?_, ?_, ?_, fun i i0 i1 => ?_⟩
    · unfold zLand
      rw [n1 14 (by decide), n1 15 (by decide), n1 16 (by decide), n1 17 (by decide), n1 18 (by decide), n1 19 (by decide)]; exact hl
    · obtain ⟨r0, r1, r2, r3, r4, r5⟩ := hr
      refine ⟨r0, by rw [l3 0 (by decide)]; exact r1, by rw [l3 1 (by decide)]; exact r2, by rw [l3 5 (by decide)]; exact r3, by rw [l3 9 (by decide)]; exact r4, fun i i0 i1 => ?_⟩
      rw [l3 9 (by decide)] at i1
      rw [(l45 i (by omega)).1, (l45 i (by omega)).2]; exact r5 i i0 i1
    · rw [l3 5 (by decide), n1 14 (by decide)]; exact h5
    · rw [l3 9 (by decide), n1 14 (by decide)]; exact h9
    · rw [n1 14 (by decide)] at i1
      rw [n1 18 (by decide), n1 19 (by decide), (l45 i (by omega)).1, (l45 i (by omega)).2]; exact hw i i0 i1
  have ew : wnr N2 = wnr M2 := by
    rw [jl.wq, a1.wq]
    funext t
    unfold wnd
    rw [n1 14 (by decide), n1 18 (by decide), n1 19 (by decide)]
  refine ⟨by omega, jl, a2.fr (fun b p _ => n1 b (by omega)) (n2 10 (by decide)) (by omega) (by omega), ?_, a4.fr (fun b p _ => n1 b (by omega)) (n2 10 (by decide)) (n2 12 (by decide)) (f 28 (by decide)) (f 29 (by decide)) (by omega) (by omega), a5.fr (fun b p _ => n1 b (by omega)) (n2 16 (by decide)) (n2 17 (by decide)) (by omega) (by omega), ?_, hP, hC⟩
  · unfold jT
    rw [l3 8 (by decide), et]
    exact ⟨a3.1.fr (n1 20 (by decide)) (n1 21 (by decide)) (n1 22 (by decide)) (n1 23 (by decide)), a3.2⟩
  · obtain ⟨n, h1, h2, h3, h4⟩ := a6
    refine ⟨n, by rw [n1 122 (by decide)]; exact h1, by rw [f 42 (by decide)]; exact h2, h3, fun i i0 i1 => ?_⟩
    unfold sFit
    rw [n1 123 (by decide), n1 124 (by decide), n1 125 (by decide), n2 18 (by decide), n2 19 (by decide), n2 20 (by decide), n2 21 (by decide), n2 22 (by decide), n2 23 (by decide), l3 5 (by decide), ew]
    simp only [et]
    exact h4 i i0 i1
theorem RLk.eq8 (h : RLk N0 pos T s M) : M 1 7 = s.2.1 ∧ M 1 8 = s.2.2 := by
  rcases h.2 with ⟨a1, a2, a3, a4, -⟩ | ⟨-, a3, a4⟩
  · exact ⟨by omega, by omega⟩
  · exact ⟨a3, a4⟩
theorem dok_2 (h : dOK X C R) : dOK (zu X 2 1 v) C R := by
  have e : ∀ c : Nat, c ≠ 2 → zu X 2 1 v c = X c := fun c hc => zu_other hc
  unfold dOK
  rw [e 8 (by decide), e 9 (by decide), e 10 (by decide), e 11 (by decide), e 12 (by decide), e 13 (by decide)]; exact h
theorem dq_dr (h : DQ Yf M) (hd : dJ Yf) (e : ∀ c : Nat, c ≠ 1 → N c = M c) : DR (Yf 8 0) (Yf 8 1) (zu Yf 2 1 v) N := by
  have ey : ∀ c : Nat, c ≠ 2 → zu Yf 2 1 v c = Yf c := fun c hc => zu_other hc
  obtain ⟨h1, h2, h3, h4, h5⟩ := h
  unfold DR
  rw [ey 8 (by decide), ey 9 (by decide), ey 10 (by decide), ey 11 (by decide), ey 12 (by decide), ey 13 (by decide), e 3 (by decide), e 4 (by decide), e 5 (by decide), e 6 (by decide), e 7 (by decide)]
  exact ⟨dok_2 hd.ok, (h1 (8, 0, 10, 3, 12) (by decide)).1, (h1 (8, 1, 11, 1, 8) (by decide)).1, (h1 (8, 2, 12, 0, 9) (by decide)).1, (h1 (9, 0, 13, 1, 6) (by decide)).1, (h1 (9, 1, 14, 1, 9) (by decide)).1, (h1 (8, 3, 15, 1, 9) (by decide)).1, (h1 (9, 2, 16, 0, 16) (by decide)).1, (h1 (9, 3, 17, 0, 16) (by decide)).1, (h1 (8, 4, 18, 0, 9999) (by decide)).1, (h1 (8, 6, 19, 1, 8) (by decide)).1, fun i i0 i1 => ⟨(h2 i i0 i1).1, (h2 i i0 i1).2.1⟩, fun c c0 c1 => ⟨(h3 c c0 c1).1, (h3 c c0 c1).2.2.1⟩⟩
theorem p_field (hJ : Jt k C R M1 M2) (hk : k < 1000) : zEs g g' o o' mX9_field mX10_field [] k M1 M2 := by
  have hJ' := hJ
  obtain ⟨a0, a1, a2, a3, a4, a5, a6, a7, a8⟩ := hJ'
  obtain ⟨p, d, u, -, -, -, -, -, hp, -⟩ := a4
  obtain ⟨p1, p2, p3⟩ := a7
  obtain ⟨c1, c2, c3, c4, c5⟩ := a8
  refine ⟨fun r N1 => ∃ X pos T, TS (M2 2) (M2 1 1) X pos T ∧ clP X ∧ gst X = (0, 0, -1) ∧ rdO X ∧ (∀ c : Nat, c = 1 ∨ c = 3 ∨ 13 < c → X c = M1 c) ∧ ((rdL 901 0 X 7 2 ≠ 0 ∧ r = -1 ∧ N1 = zu (rdL 901 0 X) 2 1 0) ∨ (rdL 901 0 X 7 2 = 0 ∧ adP (rdL 901 0 X 8 0) (rdL 901 0 X 8 1) (zu (rdL 901 0 X) 2 1 0) N1 (p 0) ∧ r = rdL 901 0 X 8 0 * rdL 901 0 X 8 1)), zki_of rfl (Nat.le_of_ble_eq_true rfl) (SX9_field_0 ⟨_, c_read (b := M2 2) (L := M2 1 1) (fun i i0 i1 => p3 i i0 i1) p2 p1, fun r2 M3 h3 => ?_⟩), fun r N1 hr => ?_⟩
  · obtain ⟨X, pos, T, hT, cl, eg, hO, hf, eM, er⟩ := h3
    have kp := rdL_kp 901 0 X hO cl.cI
    rw [← eM] at kp
    rcases zb01 (M3 7 2 = 0) with q | q
    · rw [q] at er
      have nz := zb_0.mp q
      exact ⟨by omega, fun z => absurd er z, fun _ => ⟨X, pos, T, hT, cl, eg, hO, hf, Or.inl ⟨by rw [← eM]; exact nz, rfl, by rw [← eM]⟩⟩⟩
    · rw [q] at er
      have z0 := zb_1.mp q
      have dj : dJ M3 := by
        have := dJ.rdl 901 0 X hO cl.cI (fun _ => cl.dJ)
        rw [← eM] at this; exact this z0
      have e37 : (zu M3 2 1 0) 37 0 = (p 0 : Int) := by
        rw [zu_other (by decide), kp.2.2 37 (by decide), hf 37 (by decide)]; exact (hp.1 0 (by decide)).1
      refine ⟨by omega, fun _ => ⟨_, c_adopt (dok_2 dj.ok) e37 (hp.1 0 (by decide)).2, fun M9 h9 => ⟨X, pos, T, hT, cl, eg, hO, hf, Or.inr ⟨by rw [← eM]; exact z0, by rw [← eM]; exact h9, ?_⟩⟩⟩, fun z => by omega⟩
      rw [← eM]; exact h9.1.2.2.2.1
  · obtain ⟨X, pos, T, hT, cl, eg, hO, hf, hout⟩ := hr
    have kp := rdL_kp 901 0 X hO cl.cI
    have dj := dJ.rdl 901 0 X hO cl.cI (fun _ => cl.dJ)
    have yr : ∀ c : Nat, c = 1 ∨ c = 3 ∨ 13 < c → rdL 901 0 X c = M1 c := fun c hc => by rw [kp.2.2 c (by omega), hf c hc]
    refine ⟨fun r' N2 => r = r' ∧ ∃ C R, Jt (k + 1) C R N1 N2, zki_of rfl (Nat.le_of_ble_eq_true rfl) (SX10_field_0 (fun A1 e1 A3 e3 A5 e5 A7 e7 => ⟨_, c_begins, fun M11 h11 => ?_⟩)), fun r' N2 h => h⟩
    have A1r : ∀ j : Int, zu A7 1 8 (-1) 1 j = if j = 8 then -1 else if j = 7 then 0 else if j = 3 then 0 else if j = 1 then 0 else if j = 2 then M2 1 1 else M2 1 j := fun j => by rw [zu_row, e7, zu_row, e5, zu_row, e3, zu_row, e1, zu_row]
    have Ao : ∀ c : Nat, c ≠ 1 → zu A7 1 8 (-1) c = M2 c := fun c hc => by rw [zu_other hc, e7, zu_other hc, e5, zu_other hc, e3, zu_other hc, e1, zu_other hc]
    generalize zu A7 1 8 (-1) = A at *
    obtain ⟨bg, lb, fb⟩ := h11
    have b2 : M11 2 = M2 2 := (lb.1 2 (Or.inl rfl)).trans (Ao 2 (by decide))
    have hB : RBx (M2 2) (M2 1 1) M11 := ⟨fun i i0 i1 => by rw [b2]; exact ⟨rfl, (p3 i i0 i1).2⟩, p2, by rw [fb 2 (by decide) (by decide), A1r]; simp⟩
    refine ⟨_, r_first hT hB (by rw [fb 3 (by decide) (by decide), A1r]; simp) (by rw [fb 7 (by decide) (by decide), A1r]; simp) (by rw [fb 8 (by decide) (by decide), A1r]; simp), fun M16 h16 => ?_⟩
    have hB6 := hB.pF h16.2
    have en : fEnd g' o' X pos T M16 (rdL 901 0 X) (fun r' N2 => r = r' ∧ ∃ C R, Jt (k + 1) C R N1 N2) := fun M' hR hd hl => by
      have lA : lF A M' := (lb.trans h16.2.lF).trans hl
      have e8 := hR.eq8
      have m1 : ∀ j : Int, zu (zu M' 1 9 (M' 1 7)) 1 10 (M' 1 8) 1 j = if j = 10 then M' 1 8 else if j = 9 then M' 1 7 else M' 1 j := fun j => by rw [zu_row, zu_row]
      have mo : ∀ c : Nat, c ≠ 1 → zu (zu M' 1 9 (M' 1 7)) 1 10 (M' 1 8) c = M' c := fun c hc => by rw [zu_other hc, zu_other hc]
      have f1 : M' 1 1 = 0 := by rw [lA.2.2.2.2 1 (by decide), A1r]; simp
      have f21 : ∀ i : Int, 21 ≤ i → M' 1 i = M2 1 i := fun i hi => by rw [lA.2.2.2.2 i (by omega), A1r, if_neg (by omega), if_neg (by omega), if_neg (by omega), if_neg (by omega), if_neg (by omega)]
      generalize zu (zu M' 1 9 (M' 1 7)) 1 10 (M' 1 8) = B at *
      have g2 : (gst (rdL 901 0 X)).2.1 = rdL 901 0 X 7 2 := rfl
      have g3 : (gst (rdL 901 0 X)).2.2 = rdL 901 0 X 7 3 := rfl
      have B9 : B 1 9 = rdL 901 0 X 7 2 := by rw [m1, if_neg (by decide), if_pos rfl, e8.1, g2]
      have B10 : B 1 10 = rdL 901 0 X 7 3 := by rw [m1, if_pos rfl, e8.2, g3]
      have B1 : B 1 1 = 0 := by rw [m1, if_neg (by decide), if_neg (by decide)]; exact f1
      have B21 : ∀ i : Int, 21 ≤ i → B 1 i = M2 1 i := fun i hi => by rw [m1, if_neg (by omega), if_neg (by omega)]; exact f21 i hi
      refine ⟨fun nz => ?_, fun z0 => ?_⟩
      · rcases hout with ⟨-, er, eN⟩ | ⟨z, -⟩
        · refine ⟨er, C, R, ?_⟩
          have n7 : ∀ c : Nat, c ≠ 2 → N1 c = rdL 901 0 X c := fun c hc => by rw [eN, zu_other hc]
          refine jt_fld hJ hk (fun c hc => by rw [n7 c (by omega), yr c (by omega)]) (fun c hc => by rw [mo c (by omega), lA.1 c (by omega), Ao c (by omega)]) (fun i hi => by rw [mo 3 (by decide), lA.2.1 i hi, Ao 3 (by decide)]) (fun i hi => by rw [mo 4 (by decide), mo 5 (by decide), (lA.2.2.1 i hi).1, (lA.2.2.1 i hi).2, Ao 4 (by decide), Ao 5 (by decide)]; exact ⟨rfl, rfl⟩) (fun i hi => by rw [mo 6 (by decide), mo 7 (by decide), (lA.2.2.2.1 i hi).1, (lA.2.2.2.1 i hi).2, Ao 6 (by decide), Ao 7 (by decide)]; exact ⟨rfl, rfl⟩) B21 ⟨?_, by rw [B1]; decide, fun i i0 i1 => by rw [B1] at i1; omega⟩ ⟨?_, ?_, ?_, ?_, ?_⟩
          · rw [eN, zu_at, B1]
          · rw [n7 1 (by decide), yr 1 (by decide), B21 43 (by decide)]; exact c1
          · rw [B21 43 (by decide)]; exact c2
          · rw [n7 7 (by decide), B9]
          · rw [n7 7 (by decide), B10]
          · rw [B21 26 (by decide)]; exact c5
        · exact absurd z nz
      · rcases hout with ⟨z, -⟩ | ⟨-, ad, er⟩
        · exact absurd z0 z
        · have dd := dj z0
          refine ⟨_, c_takesOver (M1 := zu (rdL 901 0 X) 2 1 0) (dq_dr (hd z0) dd mo) (by rw [B21 26 (by decide)]; exact c5), fun M10 h10 => ⟨h10.1, er, rdL 901 0 X 8 0, rdL 901 0 X 8 1, ?_⟩⟩
          have nb := ad.2.2.2.2.2.2.2.2.2.2.2.2.2.2.2.2.2
          have tb := h10.2.2.2.2.2.2.2.2.2.2.2.2
          have e1' : M10 1 1 = 0 := by rw [tb 1 (by decide) (by decide) (by decide) (by decide) (by decide)]; exact B1
          refine adopt_J (p := p) (dok_2 dd.ok) (by omega) ad h10 ?_ rfl ?_ ⟨?_, by rw [e1']; decide, fun i i0 i1 => by rw [e1'] at i1; omega⟩ ⟨?_, ?_, ?_, ?_, ?_⟩
          · unfold jHp
            rw [zu_other (by decide), yr 37 (by decide)]; exact hp
          · intro b hb
            rw [zu_other (by decide), yr 135 (by decide)]; exact (a5 b hb).1
          · rw [nb 2 (by decide), zu_at, e1']
          · rw [nb 1 (by decide), zu_other (by decide), yr 1 (by decide), tb 43 (by decide) (by decide) (by decide) (by decide) (by decide), B21 43 (by decide)]; exact c1
          · rw [tb 43 (by decide) (by decide) (by decide) (by decide) (by decide), B21 43 (by decide)]; exact c2
          · rw [nb 7 (by decide), zu_other (by decide), tb 9 (by decide) (by decide) (by decide) (by decide) (by decide), B9]
          · rw [nb 7 (by decide), zu_other (by decide), tb 10 (by decide) (by decide) (by decide) (by decide) (by decide), B10]
          · rw [tb 26 (by decide) (by decide) (by decide) (by decide) (by decide), B21 26 (by decide)]; exact c5
    have d16 : DQ X M16 := (bg_dq cl bg).pF h16.2
    refine r_fld hT en hB6 901 0 X M16 (by decide) (by decide) (by rw [eg]; exact h16.1) ⟨rfl, rfl, rfl⟩ hO cl.cI (fun _ => ⟨d16, Or.inl ?_, ⟨fun z => absurd z (by decide), fun z => ?_⟩, ?_⟩) lF.rf rfl
    · rw [h16.2.f19]; exact bg.2.2.2.2.2.1
    · rw [h16.2.f19, bg.2.2.2.2.2.1, h16.2.1 9 (by decide), bg.2.2.2.2.1 0 (by decide) (by decide)] at z
      exact absurd z (by decide)
    · have : (gst X).1 = X 7 4 := rfl
      rw [← this, eg]; decide
end FJ
