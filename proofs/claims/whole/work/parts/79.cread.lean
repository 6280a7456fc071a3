/-! the class reads all lines -/
section CR
variable {g : zG} {o : Bool} {M N N0 M' X X' Y Z : zM} {lo hi k w L v C R n x f : Int} {a : Nat} {b : Int → Int} {pos : Nat → Int} {T : Nat} {s s' : Rs} {K Pl V : Int → Int}
theorem cF.rf : cF X X := fun _ _ => rfl
theorem cF.trans (h : cF X Y) (h' : cF Y Z) : cF X Z := fun c hc => (h' c hc).trans (h c hc)
theorem cF_zu (h : 7 ≤ a ∧ a ≤ 13) : cF X (zu X a x v) := fun c hc => zu_other (by omega)
theorem cF_ps : cF X (pst X s) := fun c hc => pst_o (by omega)
theorem cF_num (h : 7 ≤ a ∧ a ≤ 13) : cF X (numF lo hi a f X) := cF_ps.trans (cF_zu h)
theorem cF_siz : cF X (sizF X) := ((cF_num (by decide)).trans cF_ps).trans (cF_num (by decide))
theorem cF_hea : cF X (heaF X) := by
  have h : cF X (nmF 1 50 (nmF 0 (X 8 1 - 1) (nmF 0 (X 8 0 - 1) X))) := (cF_ps.trans cF_ps).trans cF_ps
  unfold heaF
  split
  · exact (h.trans (cF_zu (by decide))).trans (cF_zu (by decide))
  · exact h
theorem cF_gra : cF X (graF X) := by
  have h : cF X (nmF 0 (X 8 1 - 1) (nmF 0 (X 8 0 - 1) X)) := cF_ps.trans cF_ps
  unfold graF
  split
  · split
    · exact cF_ps.trans (cF_zu (by decide))
    · exact h.trans (cF_zu (by decide))
  · exact h
theorem cF_winB : cF X (winB x X) := fun c hc => winB_o (by omega) (by omega) (by omega) (by omega)
theorem winL_ind {P : zM → Prop} (hs : ∀ (i : Int) (Z : zM), P Z → P (winB i Z)) : ∀ (f : Nat) (i : Int) (Z : zM), P Z → P (winL f i Z) := by
  intro f
  induction f with
  | zero => intro i Z h; exact h
  | succ f ih =>
    intro i Z h
    show P (if _ then _ else _)
    split
    · exact ih _ _ (hs _ _ h)
    · exact h
theorem res_c {P : Int → zM → Prop} (h0 : P 0 (sizF X)) (h1 : P 1 (numF 0 9 8 2 X)) (h2 : P 2 (heaF X)) (h3 : P 3 (graF X)) (h4 : P 4 (winL 8 0 (zu X 8 6 0))) (h5 : P 5 (numF 1 6 9 0 X)) (h6 : P 6 (numF 1 9 9 1 X)) (h7 : P 7 (numF 1 9 8 3 X)) (h8 : P 8 (numF 0 16 9 3 (numF 0 16 9 2 X))) (h9 : P 9 (numF 0 9999 8 4 X)) (hx : 0 ≤ x ∧ x ≤ 9) : P x (resF x X) := by
  have q : x = 0 ∨ x = 1 ∨ x = 2 ∨ x = 3 ∨ x = 4 ∨ x = 5 ∨ x = 6 ∨ x = 7 ∨ x = 8 ∨ x = 9 := by omega
  rcases q with q | q | q | q | q | q | q | q | q | q <;> subst q
  · rw [res0]; exact h0
  · rw [res1]; exact h1
  · rw [res2]; exact h2
  · rw [res3]; exact h3
  · rw [res4]; exact h4
  · rw [res5]; exact h5
  · rw [res6]; exact h6
  · rw [res7]; exact h7
  · rw [res8]; exact h8
  · rw [res9]; exact h9
theorem cF_res (hx : 0 ≤ x ∧ x ≤ 9) : cF X (resF x X) := res_c (P := fun _ Z => cF X Z) cF_siz (cF_num (by decide)) cF_hea cF_gra (winL_ind (P := fun Z => cF X Z) (fun _ _ h => h.trans cF_winB) _ _ _ (cF_zu (by decide))) (cF_num (by decide)) (cF_num (by decide)) (cF_num (by decide)) ((cF_num (by decide)).trans (cF_num (by decide))) (cF_num (by decide)) hx
theorem rdO.res (h : rdO X) (hx : 0 ≤ x ∧ x ≤ 9) : rdO (resF x X) := by
  refine res_c (P := fun _ Z => rdO Z) ((h.num (by decide) (by decide) (by decide)).by_.num (by decide) (by decide) (by decide)) (h.num (by decide) (by decide) (by decide)) ?_ ?_ (winL_ind (P := rdO) (fun _ _ h => h.winB) _ _ _ (h.zu (by decide) (by decide) (by decide))) (h.num (by decide) (by decide) (by decide)) (h.num (by decide) (by decide) (by decide)) (h.num (by decide) (by decide) (by decide)) ((h.num (by decide) (by decide) (by decide)).num (by decide) (by decide) (by decide)) (h.num (by decide) (by decide) (by decide)) hx
  · unfold heaF
    split
    · exact ((h.nm.nm.nm).zu (by decide) (by decide) (by decide)).zu (by decide) (by decide) (by decide)
    · exact h.nm.nm.nm
  · have h2 : rdO (nmF 0 (X 8 1 - 1) (nmF 0 (X 8 0 - 1) X)) := h.nm.nm
    unfold graF
    split
    · split
      · refine (rdO_pst.mpr (rdK.rf ?_ (by decide))).zu (by decide) (by decide) (by decide)
        have := h2
        unfold rdO at this
        rw [nmF_o (by decide), nmF_o (by decide), nmF_o (by decide), nmF_o (by decide)] at this
        exact this
      · exact h2.zu (by decide) (by decide) (by decide)
    · exact h2
theorem cI_of (h : cI X) (e0 : Y 8 0 = X 8 0) (e1 : Y 8 1 = X 8 1) (e5 : Y 8 5 = X 8 5) (e7 : Y 8 7 = X 8 7) (e11 : Y 11 = X 11) : cI Y := by
  unfold cI; rw [e0, e1, e5, e7, e11]; exact h
theorem num8 (h : ¬ (a = 8 ∧ f = x)) : numF lo hi a f X 8 x = X 8 x := by
  unfold numF zu
  rw [if_neg (fun z => h ⟨z.1.symm, z.2.symm⟩), nmF_o (by decide)]
theorem cI_num (h : cI X) (ha : a = 8 ∨ a = 9) (h8 : a = 8 → f ≠ 0 ∧ f ≠ 1 ∧ f ≠ 5 ∧ f ≠ 7) : cI (numF lo hi a f X) :=
  cI_of h (num8 (fun z => (h8 z.1).1 z.2)) (num8 (fun z => (h8 z.1).2.1 z.2)) (num8 (fun z => (h8 z.1).2.2.1 z.2)) (num8 (fun z => (h8 z.1).2.2.2 z.2)) (numF_o (by decide) (by omega))
theorem cI_nm (h : cI X) : cI (nmF lo hi X) := cI_of h (by rw [nmF_o (by decide)]) (by rw [nmF_o (by decide)]) (by rw [nmF_o (by decide)]) (by rw [nmF_o (by decide)]) (nmF_o (by decide))
theorem cI_ps (h : cI X) : cI (pst X s) := cI_of h (by rw [pst_o (by decide)]) (by rw [pst_o (by decide)]) (by rw [pst_o (by decide)]) (by rw [pst_o (by decide)]) (pst_o (by decide))
theorem cI_g (h : cI X) : cI (zu X 11 x 1) := by
  obtain ⟨a1, a2, a3, a4⟩ := h
  unfold cI
  rw [zu_other (by decide)]
  refine ⟨a1, a2, a3, fun c c0 c1 => ?_⟩
  rw [zu_row]
  split
  · decide
  · exact a4 c c0 c1
theorem cI_res (h : rdO X) (hc : cI X) (hx : 0 ≤ x ∧ x ≤ 9) (h2 : x = 2 → X 8 5 < 20) : cI (resF x X) := by
  suffices hs : (x = 2 → X 8 5 < 20) → cI (resF x X) from hs h2
  refine res_c (P := fun x Z => (x = 2 → X 8 5 < 20) → cI Z) (fun _ => ?_) (fun _ => cI_num hc (Or.inl rfl) (by decide)) (fun y => ?_) (fun _ => ?_) (fun _ => ?_) (fun _ => cI_num hc (Or.inr rfl) (by decide)) (fun _ => cI_num hc (Or.inr rfl) (by decide)) (fun _ => cI_num hc (Or.inl rfl) (by decide)) (fun _ => cI_num (cI_num hc (Or.inr rfl) (by decide)) (Or.inr rfl) (by decide)) (fun _ => cI_num hc (Or.inl rfl) (by decide)) hx
  · obtain ⟨a1, a2, a3, a4⟩ := hc
    have hA : rdO (byF (numF 3 12 8 0 X)) := (h.num (by decide) (by decide) (by decide)).by_
    have v1 := nmV_in (lo := 3) (hi := 12) h (by decide)
    have v2 := nmV_in (lo := 1) (hi := 8) hA (by decide)
    have b8 : ∀ j : Int, byF (numF 3 12 8 0 X) 8 j = if j = 0 then nmV (X 4) (X 6) 3 12 (gst X) else X 8 j := fun j => by
      unfold byF numF; rw [pst_o (by decide), zu_row, nmF_o (by decide)]
    have e8 : ∀ j : Int, sizF X 8 j = if j = 1 then nmV (byF (numF 3 12 8 0 X) 4) (byF (numF 3 12 8 0 X) 6) 1 8 (gst (byF (numF 3 12 8 0 X))) else byF (numF 3 12 8 0 X) 8 j := fun j => by
      show numF 1 8 8 1 (byF (numF 3 12 8 0 X)) 8 j = _
      generalize byF (numF 3 12 8 0 X) = A
      unfold numF; rw [zu_row, nmF_o (by decide)]
    have e11 : sizF X 11 = X 11 := by
      unfold sizF byF; rw [numF_o (by decide) (by decide), pst_o (by decide), numF_o (by decide) (by decide)]
    unfold cI
    rw [e8 0, e8 1, e8 5, e8 7, e11, b8 0, b8 5, b8 7]
    exact ⟨⟨v1.1, v1.2, v2.1, v2.2⟩, a2, a3, a4⟩
  · have y' := y rfl
    have hn := cI_nm (lo := 1) (hi := 50) (cI_nm (lo := 0) (hi := X 8 1 - 1) (cI_nm (lo := 0) (hi := X 8 0 - 1) hc))
    unfold heaF
    split
    · obtain ⟨a1, a2, a3, a4⟩ := hn
      have c5 := hc.2.1
      unfold cI
      rw [zu_row, zu_row, zu_row, zu_row, if_neg (by decide), if_neg (by decide), if_pos rfl, if_neg (by decide), zu_other (by decide), zu_other (by decide), zu_other (by decide)]
      exact ⟨a1, by omega, a3, a4⟩
    · exact hn
  · have hn := cI_nm (lo := 0) (hi := X 8 1 - 1) (cI_nm (lo := 0) (hi := X 8 0 - 1) hc)
    unfold graF
    split
    · split
      · exact cI_g (cI_ps hc)
      · exact cI_g hn
    · exact hn
  · refine winL_ind (P := cI) (fun i Z hZ => cI_of hZ (winB_8 (by decide)) (winB_8 (by decide)) (winB_8 (by decide)) (winB_8 (by decide)) (winB_o (by decide) (by decide) (by decide) (by decide))) _ _ _ ?_
    exact cI_of hc (by rw [zu_row, if_neg (by decide)]) (by rw [zu_row, if_neg (by decide)]) (by rw [zu_row, if_neg (by decide)]) (by rw [zu_row, if_neg (by decide)]) (zu_other (by decide))
theorem rdO.y0 (h : rdO X) : rdO (Y0 X k) := (rdO_pst.mpr (rdK.ad h)).zu (by decide) (by decide) (by decide)
theorem cI_y0 (h : cI X) (hk : 0 ≤ k ∧ k ≤ 9) : cI (Y0 X k) := by
  obtain ⟨a1, a2, a3, a4⟩ := h
  unfold cI
  rw [Y0_8 (by decide), Y0_8 (by decide), Y0_8 (by decide), Y0_87, Y0_o (by decide) (by decide)]
  exact ⟨a1, a2, sbt_in a3 hk, a4⟩
/-- what a line keeps -/
theorem ln_kp (h : rdO X) (hc : cI X) : rdO (linF n X) ∧ cI (linF n X) ∧ cF X (linF n X) := by
  have key : rdO (lnbF n X) ∧ cI (lnbF n X) ∧ cF X (lnbF n X) := by
    by_cases a : lnW X < 0 ∨ 9 < lnW X
    · rw [(lnb5 (n := n) a).2]; exact ⟨rdO_pst.mpr (rdK.rt h), cI_ps hc, cF_ps⟩
    · by_cases c : (lnW X = 0 ∧ 0 < n) ∨ (lnW X = 2 ∧ 20 ≤ X 8 5)
      · rw [(lnb2 a c).2]; exact ⟨rdO_pst.mpr (rdK.rf h (by decide)), cI_ps hc, cF_ps⟩
      · by_cases u : lnW X ≠ 2 ∧ lnW X ≠ 3 ∧ bt (X 8 7) (lnW X)
        · rw [(lnb3 a c u).2]; exact ⟨rdO_pst.mpr (rdK.rf h (by decide)), cI_ps hc, cF_ps⟩
        · rw [(lnb0 a c u).2]
          have hk : 0 ≤ lnW X ∧ lnW X ≤ 9 := by omega
          exact ⟨h.y0.res hk, cI_res h.y0 (cI_y0 hc hk) hk (fun z => by rw [Y0_8 (by decide)]; omega), (cF_ps.trans (cF_zu (by decide))).trans (cF_res hk)⟩
  exact ⟨key.1.sg, cI_ps key.2.1, key.2.2.trans cF_ps⟩
theorem rdL_kp : ∀ (f : Nat) (n : Int) (X : zM), rdO X → cI X → rdO (rdL f n X) ∧ cI (rdL f n X) ∧ cF X (rdL f n X) := by
  intro f
  induction f with
  | zero => intro n X h hc; exact ⟨h, hc, cF.rf⟩
  | succ f ih =>
    intro n X h hc
    show rdO (if _ then _ else _) ∧ cI (if _ then _ else _) ∧ cF X (if _ then _ else _)
    split
    · have l := ln_kp (n := n) h hc
      have r := ih (n + 1) _ l.1 l.2.1
      exact ⟨r.1, r.2.1, l.2.2.trans r.2.2⟩
    · exact ⟨h, hc, cF.rf⟩
theorem sgF_f (h : (gst Y).2.1 ≠ 0) : sgF Y = Y := by unfold sgF xpS; rw [if_neg h, pst_gst]
/-- the draft before any line -/
def clP (N : zM) : Prop := (N 8 0 = 8 ∧ N 8 1 = 4 ∧ N 8 2 = 3 ∧ N 8 3 = 2 ∧ N 8 4 = 0 ∧ N 8 5 = 0 ∧ N 8 6 = 1 ∧ N 8 7 = 0) ∧ (N 9 0 = 2 ∧ N 9 1 = 2 ∧ N 9 2 = 10 ∧ N 9 3 = 6) ∧ (∀ c : Int, 0 ≤ c → c < 96 → N 10 c = 0 ∧ N 11 c = 0) ∧ N 12 0 = 0 ∧ N 13 0 = 1
theorem c_clear : zKv g (z1 o) mX0_clear [zA g 8] M (fun N => clP N ∧ ∀ c : Nat, c < 8 ∨ 13 < c → N c = M c) := by
  refine zkv_of rfl (Nat.le_of_ble_eq_true rfl) (SX0_clear_0 (fun N1 e1 N3 e3 N5 e5 N7 e7 N9 e9 N11 e11 N13 e13 N15 e15 N17 e17 N19 e19 => ⟨_, c_fill (h := 10) (n := 96) (v := 0) rfl (by decide) (by decide), fun M23 e23 => ⟨_, c_fill (h := 11) (n := 96) (v := 0) rfl (by decide) (by decide), fun M28 e28 N31 e31 N33 e33 => ?_⟩⟩))
  have r8 : ∀ j : Int, N33 8 j = if j = 6 then 1 else if j = 7 then 0 else if j = 5 then 0 else if j = 4 then 0 else if j = 3 then 2 else if j = 2 then 3 else if j = 1 then 4 else if j = 0 then 8 else M 8 j := fun j => by
    rw [e33, zu_other (by decide), e31, zu_row, e28, zrw_other (by decide), e23, zrw_other (by decide), zu_other (by decide), e19, zu_other (by decide), e17, zu_other (by decide), e15, zu_other (by decide), e13, zu_row, e11, zu_row, e9, zu_row, e7, zu_row, e5, zu_row, e3, zu_row, e1, zu_row]
  have r9 : ∀ j : Int, N33 9 j = if j = 3 then 6 else if j = 2 then 10 else if j = 1 then 2 else if j = 0 then 2 else N13 9 j := fun j => by
    rw [e33, zu_other (by decide), e31, zu_other (by decide), e28, zrw_other (by decide), e23, zrw_other (by decide), zu_row, e19, zu_row, e17, zu_row, e15, zu_row]
  have ro : ∀ c : Nat, c ≠ 8 → c ≠ 9 → c ≠ 10 → c ≠ 11 → c ≠ 12 → N33 c = M c := fun c h8 h9 h10 h11 h12 => by
    rw [e33, zu_other h12, e31, zu_other h8, e28, zrw_other h11, e23, zrw_other h10, zu_other h9, e19, zu_other h9, e17, zu_other h9, e15, zu_other h9, e13, zu_other h8, e11, zu_other h8, e9, zu_other h8, e7, zu_other h8, e5, zu_other h8, e3, zu_other h8, e1, zu_other h8]
  refine ⟨⟨?_, ?_, fun c c0 c1 => ⟨?_, ?_⟩, ?_, zu_at _ _ _ _⟩, fun c hc => by rw [zu_other (by omega), ro c (by omega) (by omega) (by omega) (by omega) (by omega)]⟩
  · rw [zu_other (by decide), r8, r8, r8, r8, r8, r8, r8, r8]
    simp
  · rw [zu_other (by decide), r9, r9, r9, r9]
    simp
  · rw [zu_other (by decide), e33, zu_other (by decide), e31, zu_other (by decide), e28, zrw_other (by decide), e23, zrw_row, if_pos ⟨c0, by omega⟩]
  · rw [zu_other (by decide), e33, zu_other (by decide), e31, zu_other (by decide), e28, zrw_row, if_pos ⟨c0, by omega⟩]
  · rw [zu_other (by decide), e33, zu_at]
theorem clP.of (h : clP M) (e : ∀ c : Nat, 8 ≤ c → c ≤ 13 → N c = M c) : clP N := by
  unfold clP
  rw [e 8 (by decide) (by decide), e 9 (by decide) (by decide), e 10 (by decide) (by decide), e 11 (by decide) (by decide), e 12 (by decide) (by decide), e 13 (by decide) (by decide)]
  exact h
theorem clP.cI (h : clP M) : cI M := by
  obtain ⟨h1, h2, h3, -⟩ := h
  refine ⟨⟨by omega, by omega, by omega, by omega⟩, by omega, by omega, fun c c0 c1 => ?_⟩
  have := (h3 c c0 c1).2
  omega
theorem c_rdl : ∀ (f : Nat) (n : Int) (X : zM), n + f = 901 → 0 ≤ n → rdO X → cI X → ∀ q : Int → zM → Prop, (∀ r N, N = rdL f n X → r = zb (N 7 2 = 0) → q r N) → zT g (z1 o) mX4_read (zQi (z1 o) q) 31 [(0, zA g 7), (1, zI n)] [] X := by
  intro f
  induction f with
  | zero =>
    intro n X hn n0 h hc q hq
    have t := h.tk.2.2.2.2
    exact SX4_read_31 ⟨by omega, fun _ => ⟨by omega, fun z => hq _ _ rfl (zb_f z).symm, fun z => hq _ _ rfl (zb_t z).symm⟩, fun z => by omega⟩
  | succ f ih =>
    intro n X hn n0 h hc q hq
    obtain ⟨t1, t2, t3, t4, t5⟩ := h.tk
    have stop : ¬ (X 7 2 = 0 ∧ X 4 (X 7 4) ≠ 0) → rdL (f + 1) n X = X := fun z => by show (if _ then _ else _) = _; rw [if_neg z]
    have go : X 7 2 = 0 → X 4 (X 7 4) ≠ 0 → rdL (f + 1) n X = rdL f (n + 1) (linF n X) := fun z y => by show (if _ then _ else _) = _; rw [if_pos ⟨z, y⟩]
    have q' : ¬ (X 7 2 = 0 ∧ X 4 (X 7 4) ≠ 0) → ∀ r, r = zb (X 7 2 = 0) → q r X := fun z r e => hq r X (stop z).symm e
    refine SX4_read_31 ⟨by omega, fun z => by omega, fun _ => ⟨by omega, fun z => ⟨fun _ => q' (fun y => z y.1) _ (zb_f z).symm, fun y => absurd y z⟩, fun z => ⟨t1, by omega, fun y => ⟨fun u => absurd z u, fun _ => q' (fun u => u.2 y) _ (zb_t z).symm⟩, fun y => ⟨_, c_readLineWord h hc ⟨n0, by omega⟩, fun r10 M11 h11 => ?_⟩⟩⟩⟩
    obtain ⟨er, eM⟩ := h11
    have g0 : (gst X).2.1 = 0 := z
    rw [go z y] at hq
    have kp := ln_kp (n := n) h hc
    have nx := ih (n + 1) (linF n X) (by omega) (by omega) kp.1 kp.2.1 q hq
    have bad : ∀ s : Rs, s.2.1 ≠ 0 → (0 ≤ s.2.1 ∧ s.2.1 ≤ 4) → lnbF n X = pst X s → M11 = pst X s → (-2147483648 ≤ M11 7 2 ∧ M11 7 2 ≤ 2147483647) ∧ (M11 7 2 ≠ 0 → zT g (z1 o) mX4_read (zQi (z1 o) q) 31 [(0, zA g 7), (1, zI (n + 1))] [] M11) ∧ (M11 7 2 = 0 → (0 ≤ r10 ∧ r10 ≤ 9) ∧ (0 ≤ M11 8 7 ∧ M11 8 7 < 1024) ∧ ∀ N19 : zM, N19 = zu M11 8 7 (sbt (M11 8 7) r10) → ∃ q20 : zM → Prop, zKv g (z1 o) mX4_readRest [zA g 7, zI r10] N19 q20 ∧ ∀ M22 : zM, q20 M22 → (0 ≤ M22 7 4 ∧ M22 7 4 < 901) ∧ (-2147483648 ≤ (M22 4 (M22 7 4)) ∧ (M22 4 (M22 7 4)) ≤ 2147483647) ∧ (((M22 4 (M22 7 4)) ≠ 3) → (rdO M22) ∧ ∀ N33 : zM, N33 = pst M22 (xpS (M22 4) (M22 5) 0 (gst M22)) → zT g (z1 o) mX4_read (zQi (z1 o) q) 31 [(0, zA g 7), (1, zI (n + 1))] [] N33) ∧ (((M22 4 (M22 7 4)) = 3) → (rdO M22) ∧ ∀ N37 : zM, N37 = pst M22 (xpS (M22 4) (M22 5) 1 (gst M22)) → zT g (z1 o) mX4_read (zQi (z1 o) q) 31 [(0, zA g 7), (1, zI (n + 1))] [] N37)) := fun s s0 sr el em => by
      have e7 : M11 7 2 = s.2.1 := by rw [em]; exact pst_7.2.1
      refine ⟨by omega, fun _ => ?_, fun u => absurd (e7 ▸ u) s0⟩
      have : linF n X = M11 := by unfold linF; rw [el, sgF_f (by rw [gst_pst]; exact s0), em]
      rw [← this]; exact nx
    have nf : ∀ k w : Int, 1 ≤ k → k ≤ 4 → (rfS (X 5) k w (gst X)).2.1 ≠ 0 ∧ 0 ≤ (rfS (X 5) k w (gst X)).2.1 ∧ (rfS (X 5) k w (gst X)).2.1 ≤ 4 := fun k w k1 k4 => by
      unfold rfS; rw [if_pos g0]; show k ≠ 0 ∧ 0 ≤ k ∧ k ≤ 4; omega
    by_cases a : lnW X < 0 ∨ 9 < lnW X
    · have e := lnb5 (n := n) a
      have es : lwS n X = rtS (X 4) (X 5) (gst X) := by unfold lwS; rw [if_pos e.1]
      rw [es] at eM
      have r := nf (if X 4 (gst X).1 = 4 then 1 else 2) (gst X).1 (by split <;> decide) (by split <;> decide)
      exact bad _ r.1 r.2 e.2 eM
    · by_cases c : (lnW X = 0 ∧ 0 < n) ∨ (lnW X = 2 ∧ 20 ≤ X 8 5)
      · have e := lnb2 a c
        have es : lwS n X = rfS (X 5) 2 (X 7 4) (gst X) := by unfold lwS; rw [e.1, if_neg (by decide), if_neg (by decide)]
        rw [es] at eM
        have r := nf 2 (X 7 4) (by decide) (by decide)
        exact bad _ r.1 r.2 e.2 eM
      · by_cases u : lnW X ≠ 2 ∧ lnW X ≠ 3 ∧ bt (X 8 7) (lnW X)
        · have e := lnb3 a c u
          have es : lwS n X = rfS (X 5) 3 (X 7 4) (gst X) := by unfold lwS; rw [e.1, if_neg (by decide), if_neg (by decide)]
          rw [es] at eM
          have r := nf 3 (X 7 4) (by decide) (by decide)
          exact bad _ r.1 r.2 e.2 eM
        · have e := lnb0 a c u
          have es : lwS n X = adS (X 4) (gst X) := by unfold lwS; rw [e.1, if_neg (by decide), if_pos rfl]
          rw [es] at eM
          have hk : 0 ≤ lnW X ∧ lnW X ≤ 9 := by omega
          have a0 : (adS (X 4) (gst X)).2.1 = 0 := by rw [ad_w]; exact g0
          have m7 : M11 7 2 = 0 := by rw [eM, pst_7.2.1]; exact a0
          have m8 : M11 8 = X 8 := by rw [eM]; exact pst_o (by decide)
          rw [m8, er]
          refine ⟨by omega, fun w => absurd m7 w, fun _ => ⟨hk, hc.2.2.1, fun N19 e19 => ?_⟩⟩
          have e19' : N19 = Y0 X (lnW X) := by rw [e19, eM]; rfl
          have y := h.y0 (k := lnW X)
          refine ⟨_, c_readRest (x := lnW X) (M := N19) (by rw [e19']; exact y) (by rw [e19']; exact cI_y0 hc hk) hk, fun M22 e22 => ?_⟩
          have eY : M22 = lnbF n X := by rw [e22, e19', e.2]
          have rM : rdO M22 := by rw [e22, e19']; exact y.res hk
          obtain ⟨u1, u2, -⟩ := rM.tk
          have lin : ∀ cc : Int, cc = (if M22 4 (M22 7 4) = 3 then 1 else 0) → pst M22 (xpS (M22 4) (M22 5) cc (gst M22)) = linF n X := fun cc ec => by rw [ec, eY]; rfl
          refine ⟨u1, by omega, fun w => ⟨rM, fun N33 e33 => ?_⟩, fun w => ⟨rM, fun N33 e33 => ?_⟩⟩
          · rw [e33, lin 0 (by rw [if_neg w])]; exact nx
          · rw [e33, lin 1 (by rw [if_pos w])]; exact nx
end CR
