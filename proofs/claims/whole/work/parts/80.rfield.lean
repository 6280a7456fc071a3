/-! field: the reference beside the class -/
section RF
variable {g : zG} {o : Bool} {M N N0 M' M0 X X' Y Yf Z : zM} {lo hi k w L v C R n x f : Int} {a : Nat} {b : Int → Int} {pos : Nat → Int} {T : Nat} {s s' : Rs} {K Pl V : Int → Int}
theorem ad_le : s.1 ≤ (adS K s).1 := by unfold adS; split <;> simp <;> omega
theorem rf_1 : (rfS Pl k w s).1 = s.1 := by unfold rfS; split <;> rfl
theorem xp_le : s.1 ≤ (xpS K Pl k s).1 := by
  unfold xpS
  split
  · split
    · unfold rtS; rw [rf_1]; omega
    · exact ad_le
  · omega
theorem nm_le : s.1 ≤ (nmS K Pl V lo hi s).1 := by
  unfold nmS
  split
  · split
    · split
      · exact ad_le
      · rw [rf_1]; omega
    · unfold rtS; rw [rf_1]; omega
  · omega
theorem ps74 : pst X s 7 4 = s.1 := pst_7.1
theorem nmF_le : X 7 4 ≤ nmF lo hi X 7 4 := by unfold nmF; rw [ps74]; exact nm_le (s := gst X)
theorem num_le (ha : a ≠ 7) : X 7 4 ≤ numF lo hi a f X 7 4 := by unfold numF; rw [zu_other (Ne.symm ha)]; exact nmF_le
theorem win_le : X 7 4 ≤ winB x X 7 4 := by
  have e : winB x X 7 4 = (gst (winB x X)).1 := rfl
  rw [e, winB_g]
  exact Int.le_trans (xp_le (s := gst X)) nm_le
theorem res_le (hx : 0 ≤ x ∧ x ≤ 9) : X 7 4 ≤ resF x X 7 4 := by
  refine res_c (P := fun _ Z => X 7 4 ≤ Z 7 4) ?_ (num_le (by decide)) ?_ ?_ ?_ (num_le (by decide)) (num_le (by decide)) (num_le (by decide)) (Int.le_trans (num_le (a := 9) (f := 2) (by decide)) (num_le (by decide))) (num_le (by decide)) hx
  · have h1 : X 7 4 ≤ numF 3 12 8 0 X 7 4 := num_le (by decide)
    have h2 : numF 3 12 8 0 X 7 4 ≤ byF (numF 3 12 8 0 X) 7 4 := by unfold byF; rw [ps74]; exact xp_le (s := gst (numF 3 12 8 0 X))
    exact Int.le_trans (Int.le_trans h1 h2) (num_le (by decide))
  · have h : X 7 4 ≤ nmF 1 50 (nmF 0 (X 8 1 - 1) (nmF 0 (X 8 0 - 1) X)) 7 4 := Int.le_trans (Int.le_trans nmF_le nmF_le) nmF_le
    unfold heaF
    split
    · rw [zu_other (by decide), zu_other (by decide)]; exact h
    · exact h
  · have h : X 7 4 ≤ nmF 0 (X 8 1 - 1) (nmF 0 (X 8 0 - 1) X) 7 4 := Int.le_trans nmF_le nmF_le
    unfold graF
    split
    · split
      · rw [zu_other (by decide), ps74, rf_1]; exact h
      · rw [zu_other (by decide)]; exact h
    · exact h
  · refine winL_ind (P := fun Z => X 7 4 ≤ Z 7 4) (fun i Z hZ => Int.le_trans hZ win_le) _ _ _ ?_
    rw [zu_other (by decide)]; exact Int.le_refl _
/-- each line goes on -/
theorem ln_pg (hk : X 4 (X 7 4) ≠ 0) (h0 : X 7 2 = 0) (hf : (gst (lnbF n X)).2.1 = 0) : X 7 4 + 1 ≤ linF n X 7 4 := by
  have g0 : (gst X).2.1 = 0 := h0
  have le : lnbF n X 7 4 ≤ linF n X 7 4 := by unfold linF sgF; rw [ps74]; exact xp_le (s := gst (lnbF n X))
  by_cases a : lnW X < 0 ∨ 9 < lnW X
  · rw [(lnb5 (n := n) a).2, gst_pst] at hf; exact absurd hf (rt_n g0)
  · by_cases c : (lnW X = 0 ∧ 0 < n) ∨ (lnW X = 2 ∧ 20 ≤ X 8 5)
    · rw [(lnb2 a c).2, gst_pst] at hf; exact absurd hf (rf_n g0 (by decide))
    · by_cases u : lnW X ≠ 2 ∧ lnW X ≠ 3 ∧ bt (X 8 7) (lnW X)
      · rw [(lnb3 a c u).2, gst_pst] at hf; exact absurd hf (rf_n g0 (by decide))
      · have e := (lnb0 a c u).2
        have r : Y0 X (lnW X) 7 4 ≤ resF (lnW X) (Y0 X (lnW X)) 7 4 := res_le (by omega)
        have y : Y0 X (lnW X) 7 4 = X 7 4 + 1 := by
          have : Y0 X (lnW X) 7 4 = (gst (Y0 X (lnW X))).1 := rfl
          rw [this, Y0_g]; unfold adS; rw [if_neg (show ¬ X 4 (gst X).1 = 0 from hk)]; rfl
        rw [← e] at r
        omega
theorem TS.rd (h : TS b L X pos T) (e : gst X = (0, 0, -1)) : rdO X := by
  obtain ⟨-, hT, h1, h2, h3⟩ := h
  unfold rdO
  rw [e]
  refine ⟨⟨T, hT, fun t ht => ?_, 0, rfl, Nat.zero_le _⟩, by decide, by decide⟩
  obtain ⟨⟨v, w, tk, tw, tn⟩, -⟩ := h1 t ht
  rcases Nat.lt_or_ge t T with q | q
  · have k := h2 t q
    exact ⟨by omega, ⟨fun z => by omega, fun z => by omega⟩, fun z => (tw z).1, fun z => by have := tn z; omega⟩
  · have et : t = T := by omega
    subst et
    rw [h3]
    exact ⟨by decide, ⟨fun _ => rfl, fun _ => rfl⟩, fun z => absurd z (by decide), fun z => absurd z (by decide)⟩
theorem c_read (hb : ∀ i : Int, 0 ≤ i → i < L → M 3 i = b i ∧ 0 ≤ b i ∧ b i ≤ 255) (hL : 0 ≤ L ∧ L ≤ 900) (h1 : M 2 1 = L) : zKi g (z1 o) mX4_read [zA g 7] M (fun r N => ∃ X pos T, TS b L X pos T ∧ clP X ∧ gst X = (0, 0, -1) ∧ rdO X ∧ (∀ c : Nat, c = 1 ∨ c = 3 ∨ 13 < c → X c = M c) ∧ N = rdL 901 0 X ∧ r = zb (N 7 2 = 0)) := by
  refine zki_of rfl (Nat.le_of_ble_eq_true rfl) (SX4_read_0 ⟨_, c_clear, fun M3 h3 N6 e6 N8 e8 => ?_⟩)
  have r : ∀ c : Nat, c ≠ 7 → zu N8 7 4 0 c = M3 c := fun c hc => by rw [zu_other hc, e8, zu_other hc, e6, zu_other hc]
  have ms : ∀ c : Nat, (c < 8 ∨ 13 < c) → c ≠ 7 → zu N8 7 4 0 c = M c := fun c hc h7 => (r c h7).trans (h3.2 c hc)
  refine ⟨_, c_scan (b := b) (L := L) (by rw [ms 3 (by decide) (by decide)]; exact hb) hL (by rw [ms 2 (by decide) (by decide)]; exact h1), fun X hX => ?_⟩
  obtain ⟨⟨pos, T, hT⟩, -, hf⟩ := hX
  have cl : clP X := h3.1.of (fun c c8 c13 => by rw [hf c (by omega) (by omega) (by omega) (by omega), r c (by omega)])
  have x7 : X 7 = zu N8 7 4 0 7 := hf 7 (by decide) (by decide) (by decide) (by decide)
  have eg : gst X = (0, 0, -1) := by
    unfold gst
    rw [x7, zu_at, zu_row, zu_row, if_neg (by decide), if_neg (by decide), e8, zu_at, zu_row, if_neg (by decide), e6, zu_at]
  have hO := hT.rd eg
  refine c_rdl 901 0 X (by decide) (by decide) hO cl.cI _ (fun r N e er => ⟨X, pos, T, hT, cl, eg, hO, fun c hc => ?_, e, er⟩)
  rw [hf c (by omega) (by omega) (by omega) (by omega), ms c (by omega) (by omega)]
theorem lF_19 : lF M (zu M 1 19 v) := by
  refine ⟨fun c hc => zu_other (by omega), fun i _ => by rw [zu_other (by decide)], fun i _ => by rw [zu_other (by decide), zu_other (by decide)]; exact ⟨rfl, rfl⟩, fun i _ => by rw [zu_other (by decide), zu_other (by decide)]; exact ⟨rfl, rfl⟩, fun i hi => by rw [zu_row, if_neg (by omega)]⟩
/-- the end of all lines -/
def fEnd (g : zG) (o : Bool) (N0 : zM) (pos : Nat → Int) (T : Nat) (M0 Yf : zM) (q : Int → zM → Prop) : Prop := ∀ M' : zM, RLk N0 pos T (gst Yf) M' → (Yf 7 2 = 0 → DQ Yf M') → lF M0 M' → (Yf 7 2 ≠ 0 → q (-1) (zu (zu M' 1 9 (M' 1 7)) 1 10 (M' 1 8))) ∧ (Yf 7 2 = 0 → ∃ q8 : zM → Prop, zKv g (z2 o) mX10_takesOver [zA g 1] (zu (zu M' 1 9 (M' 1 7)) 1 10 (M' 1 8)) q8 ∧ ∀ M10 : zM, q8 M10 → zRf M10 (Yf 8 0) (Yf 8 1) ∧ q (Yf 8 0 * Yf 8 1) M10)
theorem r_fld (hT : TS b L N0 pos T) {q : Int → zM → Prop} (hq : fEnd g o N0 pos T M0 Yf q) (hB0 : RBx b L M0) : ∀ (f : Nat) (n : Int) (X M : zM), n + f = 901 → 0 ≤ n → RLk N0 pos T (gst X) M → (X 4 = N0 4 ∧ X 5 = N0 5 ∧ X 6 = N0 6) → rdO X → cI X → ((gst X).2.1 = 0 → DQ X M ∧ (M 1 19 = 0 ∨ M 1 19 = 1) ∧ (0 < n ↔ (M 1 19 = 1 ∨ M 9 0 = 1)) ∧ n ≤ X 7 4) → lF M0 M → rdL f n X = Yf → zT g (z2 o) mX10_field (zQi (z2 o) q) 36 [(0, zA g 1)] [] M := by
  intro f
  have out : ∀ (X M : zM), RLk N0 pos T (gst X) M → ((gst X).2.1 = 0 → DQ X M) → lF M0 M → X = Yf → (M 1 7 ≠ 0 ∨ M 1 5 = 0) → ∀ N5 : zM, N5 = zu M 1 9 (M 1 7) → (-2147483648 ≤ (zu N5 1 10 (N5 1 8)) 1 7 ∧ (zu N5 1 10 (N5 1 8)) 1 7 ≤ 2147483647) ∧ ((zu N5 1 10 (N5 1 8)) 1 7 ≤ 0 → ∃ q8 : zM → Prop, zKv g (z2 o) mX10_takesOver [zA g 1] (zu N5 1 10 (N5 1 8)) q8 ∧ ∀ M10 : zM, q8 M10 → zRf M10 (Yf 8 0) (Yf 8 1) ∧ q (Yf 8 0 * Yf 8 1) M10) ∧ (¬ (zu N5 1 10 (N5 1 8)) 1 7 ≤ 0 → q (-1) (zu N5 1 10 (N5 1 8))) := fun X M hR hd hl eX _ N5 e5 => by
    have e8 : N5 1 8 = M 1 8 := by rw [e5, zu_row, if_neg (by decide)]
    have e7 : (zu N5 1 10 (N5 1 8)) 1 7 = M 1 7 := by rw [zu_row, if_neg (by decide), e5, zu_row, if_neg (by decide)]
    have wz := hR.wz
    have m7 := hR.1.1
    rw [e7, e8, e5]
    subst eX
    have en := hq M hR hd hl
    have g0 : (gst X).2.1 = X 7 2 := rfl
    exact ⟨by omega, fun z => en.2 (by rw [← g0]; exact wz.1.mpr (by omega)), fun z => en.1 (fun y => z (by rw [wz.1.mp y]; decide))⟩
  induction f with
  | zero =>
    intro n X M hn n0 hR hX hO hc hi hl eY
    have wz := hR.wz
    have tk := hO.tk.1
    have nf : (gst X).2.1 ≠ 0 := fun z => by have := (hi z).2.2.2; omega
    exact SX10_field_36 (C := Yf 8 0) (R := Yf 8 1) ⟨hR.1, fun z N5 e5 => out X M hR (fun z => absurd z nf) hl eY (Or.inl z) N5 e5, fun z => absurd (wz.1.mpr z) nf⟩
  | succ f ih =>
    intro n X M hn n0 hR hX hO hc hi hl eY
    have wz := hR.wz
    have g0 : (gst X).2.1 = X 7 2 := rfl
    have g4 : (gst X).1 = X 7 4 := rfl
    have stop : ¬ (X 7 2 = 0 ∧ X 4 (X 7 4) ≠ 0) → X = Yf := fun z => by rw [← eY]; show X = (if _ then _ else _); rw [if_neg z]
    refine SX10_field_36 (C := Yf 8 0) (R := Yf 8 1) ⟨hR.1, fun z N5 e5 => out X M hR (fun y => (hi y).1) hl (stop (fun y => z (wz.1.mp y.1))) (Or.inl z) N5 e5, fun z => ?_⟩
    have z0 := wz.1.mpr z
    have kz := hR.kz z0
    have h15 := hR.1.2.1
    refine ⟨by omega, fun y N5 e5 => out X M hR (fun y => (hi y).1) hl (stop (fun u => u.2 (by rw [hX.1, ← g4, ← kz.1]; exact y))) (Or.inr y) N5 e5, fun y => ?_⟩
    have kn : N0 4 (gst X).1 ≠ 0 := by rw [← kz.1]; exact y
    have kX : X 4 (X 7 4) ≠ 0 := by rw [hX.1, ← g4]; exact kn
    obtain ⟨hD, h19, hN, hp⟩ := hi z0
    have go : rdL f (n + 1) (linF n X) = Yf := by rw [← eY]; show _ = (if _ then _ else _); rw [if_pos ⟨by rw [← g0]; exact z0, kX⟩]
    have kp := ln_kp (n := n) hO hc
    have hB : RBx b L M := hB0.lF hl
    have lkey : cF X (lnbF n X) := by
      have h2 : cF X (linF n X) := kp.2.2
      intro c hc'
      have := h2 c hc'
      unfold linF sgF at this
      rw [pst_o (by omega)] at this; exact this
    have l4 : lnbF n X 4 = N0 4 := (lkey 4 (by decide)).trans hX.1
    have l5 : lnbF n X 5 = N0 5 := (lkey 5 (by decide)).trans hX.2.1
    have eg : gst (linF n X) = sgS N0 (gst (lnbF n X)) := by
      unfold linF sgF; rw [gst_pst, l4, l5]; rfl
    have X4 : linF n X 4 = N0 4 ∧ linF n X 5 = N0 5 ∧ linF n X 6 = N0 6 := ⟨(kp.2.2 4 (by decide)).trans hX.1, (kp.2.2 5 (by decide)).trans hX.2.1, (kp.2.2 6 (by decide)).trans hX.2.2⟩
    -- behind a line
    have beh : ∀ N1 N : zM, lF M0 N1 → LPw N0 pos T N1 (lnbF n X) N → ((sgS N0 (gst (lnbF n X))).2.1 = 0 → (N 1 19 = 0 ∨ N 1 19 = 1) ∧ (N 1 19 = 1 ∨ N 9 0 = 1)) → zT g (z2 o) mX10_field (zQi (z2 o) q) 71 [(0, zA g 1)] [] N := fun N1 N l1 hw hc' => by
      obtain ⟨⟨s', r', es⟩, hd, lf⟩ := hw
      have l0 : lF M0 N := l1.trans lf
      have hBN : RBx b L N := hB0.lF l0
      have rz := r'.wz
      have nxt : ∀ M'' : zM, RLk N0 pos T (sgS N0 s') M'' → pF N M'' → zT g (z2 o) mX10_field (zQi (z2 o) q) 36 [(0, zA g 1)] [] M'' := fun M'' u1 u2 => by
        rw [es, ← eg] at u1
        refine ih (n + 1) (linF n X) M'' (by omega) (by omega) u1 X4 kp.1 kp.2.1 (fun nz => ?_) (l0.trans u2.lF) go
        rw [eg] at nz
        have d := hd nz
        have c' := hc' nz
        have pg := ln_pg (n := n) kX (by rw [← g0]; exact z0) (sgS_0 nz)
        have e9 : M'' 9 0 = N 9 0 := by rw [u2.1 9 (by decide)]
        have e19 : M'' 1 19 = N 1 19 := u2.f19
        refine ⟨(d.1.ps).pF u2, by rw [e19]; exact c'.1, ⟨fun _ => by rw [e19, e9]; exact c'.2, fun _ => by omega⟩, by omega⟩
      refine SX10_field_71 ⟨r'.1, fun u => ⟨fun _ => nxt N (by rw [sgS_f (fun y => u (rz.1.mp y))]; exact r') pF.rf, fun u' => absurd u' u⟩, fun u => ?_⟩
      have u0 := rz.1.mpr u
      have uk := r'.kz u0
      have u15 := r'.1.2.1
      refine ⟨by omega, fun k3 => ⟨fun u' => absurd u u', fun _ => ⟨_, r_goOn hT hBN r' u0 (by rw [← uk.1, k3]; decide), fun M19 h19' => nxt M19 ?_ h19'.2⟩⟩, fun k3 N24 e24 => ?_⟩
      · have k3' : N0 4 s'.1 = 3 := by rw [← uk.1]; exact k3
        have : sgS N0 s' = adS (N0 4) s' := by unfold sgS; rw [if_pos k3']; unfold xpS; rw [if_pos u0, if_neg (by decide)]
        rw [this]; exact h19'.1
      · subst e24
        have r2 : RLk N0 pos T (rtS (N0 4) (N0 5) s') (wrM 2 N) := r_wr (k := 2) r' (by decide)
        have e2 : sgS N0 s' = rtS (N0 4) (N0 5) s' := sgS_n u0 (by rw [← uk.1]; exact k3)
        have z2' := r2.wz
        exact ⟨r2.1, fun _ => nxt _ (by rw [e2]; exact r2) wr_pF, fun w => absurd (z2'.1.mpr w) (rt_n u0)⟩
    have iw : isW 1936292453 M ↔ ((gst X).2.1 = 0 ∧ N0 4 (gst X).1 = 1 ∧ N0 6 (gst X).1 = 0) := hR.isw 0 (by decide)
    refine ⟨fun ni => ⟨_, r_other (n := n) hT hB hR z0 hX hD hO (fun el => ?_), fun N hw => beh (zu M 1 19 1) N (hl.trans lF_19) hw (fun nz => ?_)⟩, fun yi => ⟨_, r_siz (n := n) hT hB hR z0 (iw.mp yi).2.1 hX hD hO ?_ h19 n0 hN, fun N hw => beh M N hl hw.1 (fun nz => ?_)⟩⟩
    · refine ni (iw.mpr ⟨z0, ?_⟩)
      unfold lnW at el
      rw [hX.1, hX.2.2, ← g4] at el
      by_cases k1 : N0 4 (gst X).1 = 1
      · rw [if_pos k1] at el; exact ⟨k1, el⟩
      · rw [if_neg k1] at el; exact absurd el (by decide)
    · have e := (hw.2.1 nz).2
      rw [zu_at] at e
      exact ⟨Or.inr e, Or.inl e⟩
    · unfold lnW
      rw [hX.1, hX.2.2, ← g4, if_pos (iw.mp yi).2.1]; exact (iw.mp yi).2.2
    · have e := (hw.1.2.1 nz).2
      exact ⟨by rw [e]; exact h19, Or.inr (hw.2 nz)⟩
end RF
