section RT
variable {g : zG} {o : Bool} {M M' M'' : zM} {x y w c k t sh S C R B T : Int} {H H' G G' X wd : Int → Int} {z : Hz}
theorem rfx.trans (h1 : rfx M M') (h2 : rfx M' M'') : rfx M M'' :=
  ⟨fun b p q => (h2.1 b p q).trans (h1.1 b p q), fun i p q r => (h2.2.1 i p q r).trans (h1.2.1 i p q r), fun i p q r => (h2.2.2 i p q r).trans (h1.2.2 i p q r)⟩
theorem rfx.rf : rfx M M := ⟨fun _ _ _ => rfl, fun _ _ _ _ => rfl, fun _ _ _ _ => rfl⟩
theorem rfx.L (h : rfx M M') (hL : zRf M C R) : zRf M' C R := hL.of (h.1 3 (by decide) (by decide)) (h.1 4 (by decide) (by decide)) (h.1 5 (by decide) (by decide))
theorem wnr_of (h3 : M' 3 = M 3) (h4 : M' 4 = M 4) (h5 : M' 5 = M 5) : wnr M' = wnr M := by funext t; unfold wnr; rw [h3, h4, h5]
theorem rfx.W (h : rfx M M') : wnr M' = wnr M := wnr_of (h.1 3 (by decide) (by decide)) (h.1 4 (by decide) (by decide)) (h.1 5 (by decide) (by decide))
theorem c_tries {x : Sx} (h : zRf M C R) (hO : RefOK M B T) (hB : 0 ≤ B ∧ B < 900000000) (hT : T ≤ 2000000000) (hl : -1 ≤ M 1 26 ∧ M 1 26 ≤ 12) (hx : repx M x) (hG : eq96 (fun i => M 11 (96 + i)) G) (hw : ∀ t, 0 ≤ t → wnr M t = wd t) :
    zKi g (z2 o) mX10_tries [zA g 1] M (fun r M' => r = zb (tryB C R wd G (M 11 193) x) ∧ repx M' (tryS C R (M 3 5) wd G (M 11 192) (M 11 193) (M 11 194) (M 11 195) x) ∧ rfx M M' ∧ RefOK M' (B + 1) (T + 1)) := by
  have hO' := hO
  obtain ⟨o1, o2, o3, o4, o5, o6, o7, o8⟩ := hO
  obtain ⟨⟨x1, x2, x3⟩, x4, x5, x6⟩ := hx
  have hn := geo_n h.1
  have hS := h.2.2.2.1
  have d1 := dsd_in (M 11 196)
  have c1 := md (C := C * R) (k := dsd (M 11 196)) (by omega)
  have w1 := wnr_in (t := M 11 197) h o8.1
  refine zki_of rfl (Nat.le_of_ble_eq_true rfl) (SX10_tries_0 (C := C) (R := R) ⟨h, o7, by omega, fun r7 N9 e7 e9 => ?_⟩)
  have n11 : ∀ i : Int, i ≠ 196 → N9 11 i = M 11 i := fun i p => by rw [e9, zu_row, if_neg p]
  have n196 : N9 11 196 = dsd (M 11 196) := by rw [e9, zu_at]
  have nb : ∀ b : Nat, b ≠ 11 → N9 b = M b := fun b p => by rw [e9, zu_other p]
  have hL9 : zRf N9 C R := h.of (nb 3 (by decide)) (nb 4 (by decide)) (nb 5 (by decide))
  have eW : wnr N9 = wnr M := wnr_of (nb 3 (by decide)) (nb 4 (by decide)) (nb 5 (by decide))
  have hr : 0 ≤ r7 ∧ r7 < C * R := by omega
  have er : r7 = dsd x.2.2.1 % (C * R) := by rw [e7, x5]
  have eH : eq96 (N9 11) x.1.1 := fun i h0 h1 => by rw [n11 i (by omega)]; exact x1 i h0 h1
  have eG : eq96 (fun i => N9 11 (96 + i)) G := fun i h0 h1 => by show N9 11 (96 + i) = G i; rw [n11 _ (by omega)]; exact hG i h0 h1
  have hB9 : Bd (N9 11) := fun i h0 h1 => by rw [n11 i (by omega)]; have := o1 i h0 h1; omega
  have og := o2 r7 hr.1 (by omega)
  have bX : BdB B x.1.1 := fun i h0 h1 => by rw [← x1 i h0 h1]; exact o1 i h0 h1
  rw [n11 197 (by decide), n11 193 (by decide), n11 (96 + r7) (by omega), eW, hw _ o8.1]
  have hy : yld C R (N9 11) (fun i => N9 11 (96 + i)) (M 11 193) r7 (wd (M 11 197)) ↔ tryB C R wd G (M 11 193) x := by
    rw [yld_eq h.1 hr eH eG, er, x6]; exact Iff.rfl
  refine ⟨hL9, hr, by omega, hB9, by omega, og, fun h4 => ?_, fun h4 => ?_⟩
  · rw [zb_congr hy]
    have hb : ¬ tryB C R wd G (M 11 193) x := fun q => h4 (hy.mpr q)
    have es : tryS C R (M 3 5) wd G (M 11 192) (M 11 193) (M 11 194) (M 11 195) x = (x.1, x.2.1, dsd x.2.2.1, x.2.2.2 + 1) := by
      unfold tryS; rw [if_neg (by rw [zb_f hb]; decide)]
    obtain ⟨N, eN⟩ : ∃ N : zM, N = zu N9 11 197 (M 11 197 + 1) := ⟨_, rfl⟩
    rw [← eN, es]
    have m11 : ∀ i : Int, i ≠ 196 → i ≠ 197 → N 11 i = M 11 i := fun i p1 p2 => by rw [eN, zu_row, if_neg p2, n11 i p1]
    have m197 : N 11 197 = M 11 197 + 1 := by rw [eN, zu_at]
    have m196 : N 11 196 = dsd (M 11 196) := by rw [eN, zu_row, if_neg (by decide), n196]
    have m1 : N 1 = M 1 := by rw [eN, zu_other (by decide), nb 1 (by decide)]
    refine ⟨rfl, ⟨⟨fun i h0 h1 => by rw [m11 i (by omega) (by omega)]; exact x1 i h0 h1, by rw [m1]; exact x2, by unfold rX; rw [m1]; exact x3⟩, by rw [m1]; exact x4, by rw [m196, x5], by rw [m197, x6]⟩, ⟨fun b p1 p2 => by rw [eN, zu_other p2, nb b p2], fun i _ _ _ => by rw [m1], fun i _ p1 p2 => m11 i p1 p2⟩, ?_⟩
    exact ⟨fun i h0 h1 => by rw [m11 i (by omega) (by omega)]; have := o1 i h0 h1; omega, fun i h0 h1 => by rw [m11 _ (by omega) (by omega)]; exact o2 i h0 h1, by rw [m11 192 (by decide) (by decide)]; exact o3, by rw [m11 193 (by decide) (by decide)]; exact o4, by rw [m11 194 (by decide) (by decide)]; exact o5, by rw [m11 195 (by decide) (by decide)]; exact o6, by rw [m196]; exact d1, by rw [m197]; omega⟩
  · rw [zb_congr hy]
    have hb : tryB C R wd G (M 11 193) x := hy.mp h4
    have hpos : 0 < x.1.1 r7 := by have := h4.1; rw [eH r7 hr.1 (by omega)] at this; exact this
    have bx := bX r7 hr.1 (by omega)
    have e9r : N9 11 r7 = x.1.1 r7 := eH r7 hr.1 (by omega)
    obtain ⟨N, eN⟩ : ∃ N : zM, N = zu N9 11 r7 (N9 11 r7 - 1) := ⟨_, rfl⟩
    rw [← eN]
    have b11 : ∀ i : Int, i ≠ r7 → N 11 i = N9 11 i := fun i p => by rw [eN, zu_row, if_neg p]
    have bb : ∀ b : Nat, b ≠ 11 → N b = M b := fun b p => by rw [eN, zu_other p, nb b p]
    have hLN : zRf N C R := h.of (bb 3 (by decide)) (bb 4 (by decide)) (bb 5 (by decide))
    have hU : BdB B (up x.1.1 r7 (x.1.1 r7 - 1)) := up_bd bX (by omega)
    have hzN : repz N (up x.1.1 r7 (x.1.1 r7 - 1), x.1.2.1, x.1.2.2) := by
      refine ⟨fun i h0 h1 => ?_, by rw [bb 1 (by decide)]; exact x2, by unfold rX; rw [bb 1 (by decide)]; exact x3⟩
      rw [eN, zu_row]
      show _ = up x.1.1 r7 _ i
      unfold up
      rw [e9r, eH i h0 h1]
    refine ⟨by omega, _, c_fills hLN hr (by rw [bb 1 (by decide)]; exact hl) hzN (hU.le (by omega)), fun M22 hq => ?_⟩
    rw [bb 3 (by decide)] at hq
    have ez : flz C R (M 3 5) 96 (up x.1.1 r7 (x.1.1 r7 - 1), x.1.2.1, x.1.2.2) r7 = tryZ C R (M 3 5) x := by rw [er]; rfl
    rw [ez] at hq
    obtain ⟨⟨z1, z2', z3⟩, f1, f2, f3⟩ := hq
    have hZ : BdB B (tryZ C R (M 3 5) x).1 := by rw [← ez]; exact flz_bd h.1 hS.1 96 _ r7 hr hU
    have p11 : ∀ i : Int, 96 ≤ i → i ≠ 196 → M22 11 i = M 11 i := fun i p1 p2 => by rw [f3 i p1, b11 i (by omega), n11 i p2]
    have p196 : M22 11 196 = dsd (M 11 196) := by rw [f3 196 (by decide), b11 196 (by omega), n196]
    have pb : ∀ b : Nat, b ≠ 1 → b ≠ 11 → M22 b = M b := fun b p1 p2 => by rw [f1 b p1 p2, bb b p2]
    have p1 : ∀ i : Int, i ≠ 24 → i ≠ 25 → M22 1 i = M 1 i := fun i q1 q2 => by rw [f2 i q1 q2, bb 1 (by decide)]
    have hL22 : zRf M22 C R := h.of (pb 3 (by decide) (by decide)) (pb 4 (by decide) (by decide)) (pb 5 (by decide) (by decide))
    have eW22 : wnr M22 = wnr M := wnr_of (pb 3 (by decide) (by decide)) (pb 4 (by decide) (by decide)) (pb 5 (by decide) (by decide))
    have hO22 : RefOK M22 B T := ⟨fun i h0 h1 => by rw [z1 i h0 h1]; exact hZ i h0 h1, fun i h0 h1 => by rw [p11 _ (by omega) (by omega)]; exact o2 i h0 h1, by rw [p11 192 (by decide) (by decide)]; exact o3, by rw [p11 193 (by decide) (by decide)]; exact o4, by rw [p11 194 (by decide) (by decide)]; exact o5, by rw [p11 195 (by decide) (by decide)]; exact o6, by rw [p196]; exact d1, by rw [p11 197 (by decide) (by decide)]; exact o8⟩
    have hfl := c_flies (g := g) (o := o) (H := (tryZ C R (M 3 5) x).1) (X := (tryZ C R (M 3 5) x).2.2) hL22 hr hO22 (by omega) (by rw [p1 26 (by decide) (by decide)]; exact hl) z3 z1
    rw [eW22, p11 197 (by decide) (by decide), p11 192 (by decide) (by decide), p11 193 (by decide) (by decide), p11 194 (by decide) (by decide), p11 195 (by decide) (by decide), p196, p1 23 (by decide) (by decide), hw _ o8.1] at hfl
    have ey : fly C R (wd (M 11 197)) (M 11 192) (tryZ C R (M 3 5) x).1 (M 11 193) (M 11 194) (M 11 195) 20 r7 (dsd (M 11 196)) (tryZ C R (M 3 5) x).2.2 (M 1 23) = tryY C R (M 3 5) wd (M 11 192) (M 11 193) (M 11 194) (M 11 195) x := by rw [er, x4, x5, x6]; rfl
    rw [ey] at hfl
    refine ⟨_, hfl, fun r26 M27 hq => ?_⟩
    obtain ⟨q1, q2, q3, q4, q5, q6, q7⟩ := hq
    have fi : (0 ≤ r26 ∧ r26 < C * R) ∧ 0 ≤ (tryY C R (M 3 5) wd (M 11 192) (M 11 193) (M 11 194) (M 11 195) x).2.1 ∧ (tryY C R (M 3 5) wd (M 11 192) (M 11 193) (M 11 194) (M 11 195) x).2.1 ≤ 10006 := by
      rw [q1, ← ey]; exact fly_in h.1 20 hr d1
    have qx := hZ r26 fi.1.1 (by omega)
    have e27r : M27 11 r26 = (tryZ C R (M 3 5) x).1 r26 := by rw [q7 _ (by omega)]; exact z1 _ fi.1.1 (by omega)
    obtain ⟨N', eN'⟩ : ∃ N : zM, N = zu M27 11 r26 (M27 11 r26 + 1) := ⟨_, rfl⟩
    rw [← eN']
    have cb : ∀ b : Nat, b ≠ 1 → b ≠ 11 → N' b = M b := fun b p1 p2 => by rw [eN', zu_other p2, q5 b p1 p2, pb b p1 p2]
    have c11 : ∀ i : Int, i ≠ r26 → N' 11 i = M27 11 i := fun i p => by rw [eN', zu_row, if_neg p]
    have cc1 : N' 1 = M27 1 := by rw [eN', zu_other (by decide)]
    have hLN' : zRf N' C R := h.of (cb 3 (by decide) (by decide)) (cb 4 (by decide) (by decide)) (cb 5 (by decide) (by decide))
    have hU2 : BdB (B + 1) (up (tryZ C R (M 3 5) x).1 r26 ((tryZ C R (M 3 5) x).1 r26 + 1)) := up_bd (hZ.le (by omega)) (by omega)
    have hzN' : repz N' (up (tryZ C R (M 3 5) x).1 r26 ((tryZ C R (M 3 5) x).1 r26 + 1), (tryZ C R (M 3 5) x).2.1, (tryY C R (M 3 5) wd (M 11 192) (M 11 193) (M 11 194) (M 11 195) x).2.2.1) := by
      refine ⟨fun i h0 h1 => ?_, by rw [cc1, q6 24 (by decide) (by decide)]; exact z2', by unfold rX; rw [cc1]; exact q3⟩
      rw [eN', zu_row]
      show _ = up _ r26 _ i
      unfold up
      rw [e27r, q7 i (by omega), z1 i h0 h1]
    refine ⟨by omega, _, c_spills hLN' fi.1 (by rw [cc1, q6 26 (by decide) (by decide), p1 26 (by decide) (by decide)]; exact hl) hzN' (hU2.le (by omega)), fun M33 hq => ?_⟩
    rw [cb 3 (by decide) (by decide)] at hq
    obtain ⟨⟨y1, y2, y3⟩, g1, g2, g3⟩ := hq
    have m11 : ∀ i : Int, 96 ≤ i → i ≠ 196 → M33 11 i = M 11 i := fun i p1 p2 => by rw [g3 i p1, c11 i (by omega), q7 i p2, p11 i p1 p2]
    have m196 : M33 11 196 = (tryY C R (M 3 5) wd (M 11 192) (M 11 193) (M 11 194) (M 11 195) x).2.1 := by rw [g3 196 (by decide), c11 196 (by omega), q2]
    have m23 : M33 1 23 = (tryY C R (M 3 5) wd (M 11 192) (M 11 193) (M 11 194) (M 11 195) x).2.2.2 := by rw [g2 23 (by decide) (by decide), cc1, q4]
    have hsp := spz_bd (B := B + 1) h.1 hS.1 96 (up (tryZ C R (M 3 5) x).1 r26 ((tryZ C R (M 3 5) x).1 r26 + 1), (tryZ C R (M 3 5) x).2.1, (tryY C R (M 3 5) wd (M 11 192) (M 11 193) (M 11 194) (M 11 195) x).2.2.1) r26 fi.1 hU2
    have es : tryS C R (M 3 5) wd G (M 11 192) (M 11 193) (M 11 194) (M 11 195) x = (spz C R (M 3 5) 96 (up (tryZ C R (M 3 5) x).1 r26 ((tryZ C R (M 3 5) x).1 r26 + 1), (tryZ C R (M 3 5) x).2.1, (tryY C R (M 3 5) wd (M 11 192) (M 11 193) (M 11 194) (M 11 195) x).2.2.1) r26, (tryY C R (M 3 5) wd (M 11 192) (M 11 193) (M 11 194) (M 11 195) x).2.2.2, (tryY C R (M 3 5) wd (M 11 192) (M 11 193) (M 11 194) (M 11 195) x).2.1, x.2.2.2 + 1) := by
      unfold tryS; rw [if_pos (zb_t hb), q1]
    rw [es, m11 197 (by decide) (by decide)]
    obtain ⟨N2, eN2⟩ : ∃ N : zM, N = zu M33 11 197 (M 11 197 + 1) := ⟨_, rfl⟩
    rw [← eN2]
    have k11 : ∀ i : Int, i ≠ 197 → N2 11 i = M33 11 i := fun i p => by rw [eN2, zu_row, if_neg p]
    have k1 : N2 1 = M33 1 := by rw [eN2, zu_other (by decide)]
    refine ⟨rfl, ⟨⟨fun i h0 h1 => by rw [k11 i (by omega)]; exact y1 i h0 h1, by rw [k1]; exact y2, by unfold rX; rw [k1]; exact y3⟩, by rw [k1]; exact m23, by rw [k11 196 (by decide)]; exact m196, by rw [eN2, zu_at, x6]⟩, ⟨fun b p1 p2 => by rw [eN2, zu_other p2, g1 b p1 p2, cb b p1 p2], fun i a1 a2 a3 => by rw [k1, g2 i a2 a3, cc1, q6 i a1 a3, p1 i a2 a3], fun i a1 a2 a3 => by rw [k11 i a3, m11 i a1 a2]⟩, ?_⟩
    exact ⟨fun i h0 h1 => by rw [k11 i (by omega), y1 i h0 h1]; exact hsp i h0 h1, fun i h0 h1 => by rw [k11 _ (by omega), m11 _ (by omega) (by omega)]; exact o2 i h0 h1, by rw [k11 192 (by decide), m11 192 (by decide) (by decide)]; exact o3, by rw [k11 193 (by decide), m11 193 (by decide) (by decide)]; exact o4, by rw [k11 194 (by decide), m11 194 (by decide) (by decide)]; exact o5, by rw [k11 195 (by decide), m11 195 (by decide) (by decide)]; exact o6, by rw [k11 196 (by decide), m196]; exact fi.2, by rw [eN2, zu_at]; omega⟩
theorem c_blows {x : Sx} (n : Nat) (hn : n ≤ 500) (h : zRf M C R) (hO : RefOK M B T) (hB : 0 ≤ B ∧ B < 800000000) (hT : T ≤ 1900000000) (hl : -1 ≤ M 1 26 ∧ M 1 26 ≤ 12) (hx : repx M x) (hG : eq96 (fun i => M 11 (96 + i)) G) (hw : ∀ t, 0 ≤ t → wnr M t = wd t) :
    zKi g (z2 o) mX10_blows [zA g 1, zI n] M (fun r M' => r = blwN C R (M 3 5) wd G (M 11 192) (M 11 193) (M 11 194) (M 11 195) n x ∧ repx M' (blwS C R (M 3 5) wd G (M 11 192) (M 11 193) (M 11 194) (M 11 195) n x) ∧ rfx M M' ∧ RefOK M' (B + n) (T + n)) := by
  refine zki_of rfl (Nat.le_of_ble_eq_true rfl) (SX10_blows_0 ?_)
  suffices hs : ∀ (j : Nat) (i y : Int) (x : Sx) (M1 : zM) (B1 T1 : Int), 0 ≤ i → i + j = n → repx M1 x → rfx M M1 → RefOK M1 B1 T1 → 0 ≤ B1 → B1 + j = B + n → T1 + j = T + n → zT g (z2 o) mX10_blows (zQi (z2 o) (fun r M' => r = y + blwN C R (M 3 5) wd G (M 11 192) (M 11 193) (M 11 194) (M 11 195) j x ∧ repx M' (blwS C R (M 3 5) wd G (M 11 192) (M 11 193) (M 11 194) (M 11 195) j x) ∧ rfx M M' ∧ RefOK M' (B + n) (T + n))) 4 [(0, zA g 1), (1, zI n), (2, zI y), (3, zI i)] [] M1 by
    have hh := hs n 0 0 x M B T (by omega) (by omega) hx rfx.rf hO hB.1 (by omega) (by omega)
    simp only [Int.zero_add] at hh
    exact hh
  intro j
  induction j with
  | zero =>
    intro i y x M1 B1 T1 h0 hi hx1 hf hO1 hb e1 e2
    refine SX10_blows_4 ⟨by omega, by omega, fun h => ⟨by show y = y + 0; omega, hx1, hf, ?_⟩, fun h => by omega⟩
    rw [← e1, ← e2]; simpa using hO1
  | succ j ih =>
    intro i y x M1 B1 T1 h0 hi hx1 hf hO1 hb e1 e2
    have hL1 := hf.L h
    have f3 : M1 3 = M 3 := hf.1 3 (by decide) (by decide)
    have fg : ∀ i : Int, 96 ≤ i → i ≠ 196 → i ≠ 197 → M1 11 i = M 11 i := hf.2.2
    have ht := c_tries (g := g) (o := o) (G := G) (wd := wd) hL1 hO1 ⟨hb, by omega⟩ (by omega) (by rw [hf.2.1 26 (by decide) (by decide) (by decide)]; exact hl) hx1 (fun i h0 h1 => by show M1 11 (96 + i) = _; rw [fg _ (by omega) (by omega) (by omega)]; exact hG i h0 h1) (by rw [hf.W]; exact hw)
    rw [f3, fg 192 (by decide) (by decide) (by decide), fg 193 (by decide) (by decide) (by decide), fg 194 (by decide) (by decide) (by decide), fg 195 (by decide) (by decide) (by decide)] at ht
    refine SX10_blows_4 ⟨by omega, by omega, fun h => by omega, fun h => ⟨_, ht, fun r4 M5 hq => ?_⟩⟩
    obtain ⟨q1, q2, q3, q4⟩ := hq
    refine ⟨by rw [q1]; exact zb01 _, ?_⟩
    have key := ih (i + 1) (y + r4) _ M5 (B1 + 1) (T1 + 1) (by omega) (by omega) q2 (hf.trans q3) q4 (by omega) (by omega) (by omega)
    rw [q1, Int.add_assoc] at key
    rw [q1]
    exact key
end RT
