section SH
variable {g g' : zG} {o o' : Bool} {M M' M1 M2 N1 N2 : zM} {k C R c d m x y e s x1 x2 x3 : Int} {L H B : Int → Int} {h2 : Nat}
theorem md2 {a C : Int} (h0 : 0 ≤ a) (h1 : a < C + C) : a % C = if a < C then a else a - C := by
  by_cases h : a < C
  · rw [if_pos h]; exact Int.emod_eq_of_lt h0 h
  · rw [if_neg h]
    have e : a = (a - C) + C := by omega
    have e2 : a % C = ((a - C) + C) % C := congrArg (· % C) e
    rw [e2, Int.add_emod_right]; exact Int.emod_eq_of_lt (by omega) (by omega)
theorem alg_sid (hG : Geo C R) (hc : 0 ≤ c ∧ c < C * R) : alg C R (alg C R c 0 e) 1 s = C * ((c / C + s) % R) + (c % C + e) % C := by
  obtain ⟨g1, g2, g3, g4⟩ := hG
  have m := md (C := C) (k := c % C + e) (by omega)
  rw [alg0, alg1, (dv m).1, (dv m).2]
theorem c_moved (hL : zLand M C R) (hc : 0 ≤ c ∧ c < C * R) (he : 0 ≤ e ∧ e < C) (hs : 0 ≤ s ∧ s < R) : zKi g (z1 o) mX2_moved [zA g 14, zI c, zI e, zI s] M (fun r M' => r = alg C R (alg C R c 0 e) 1 s ∧ M' = M) := by
  have hn := geo_n hL.1
  have q := xy hL.1 hc
  obtain ⟨g1, g2, g3, g4⟩ := hL.1
  obtain ⟨l1, l2, -⟩ := hL.2.2.2.2.2.2.2.2 c hc.1 hc.2
  have e0 : M 14 0 = C := hL.2.1
  have e1 : M 14 1 = R := hL.2.2.1
  have m1 := md2 (a := c / C + s) (C := R) (by omega) (by omega)
  have m2 := md2 (a := c % C + e) (C := C) (by omega) (by omega)
  refine zki_of rfl (Nat.le_of_ble_eq_true rfl) (SX2_moved_0 ?_)
  rw [alg_sid hL.1 hc, l1, l2, e0, e1, m1, m2]
  refine ⟨by omega, by omega, by omega, fun h => ⟨by omega, by omega, fun h' => ⟨?_, rfl⟩, fun h' => ⟨?_, rfl⟩⟩, fun h => ⟨by omega, by omega, fun h' => ⟨?_, rfl⟩, fun h' => ⟨?_, rfl⟩⟩⟩
  · rw [if_pos h, if_pos h', Int.mul_comm]
  · rw [if_pos h, if_neg h', Int.mul_comm]
  · rw [if_neg h, if_pos h', Int.mul_comm]
  · rw [if_neg h, if_neg h', Int.mul_comm]
/-- what is in common with heights moved -/
def ovf (C R : Int) (B H : Int → Int) (e s : Int) : Int → Int := fun c => min (B c) (H (alg C R (alg C R c 0 e) 1 s))
theorem ovf_in (hG : Geo C R) (hB : ∀ c : Int, 0 ≤ c → c < C * R → 0 ≤ B c ∧ B c ≤ 1000000) (hH : ∀ c : Int, 0 ≤ c → c < C * R → 0 ≤ H c ∧ H c ≤ 1000000) (n : Nat) (hn : (n : Int) ≤ C * R) : 0 ≤ smt (ovf C R B H e s) n ∧ smt (ovf C R B H e s) n ≤ 96000000 := by
  have hg := geo_n hG
  have key : ∀ c : Int, 0 ≤ c → c < n → 0 ≤ ovf C R B H e s c ∧ ovf C R B H e s c ≤ 1000000 := fun c a b => by
    have b1 := hB c a (by omega)
    have a2 := alg_in (w := 1) (k := s) hG (alg_in (w := 0) (k := e) hG (c := c) ⟨a, by omega⟩)
    have b2 := hH _ a2.1 a2.2
    unfold ovf; omega
  have u := smt_nn (f := ovf C R B H e s) (n := n) (fun i a b => (key i a b).1)
  have v := smt_le (f := ovf C R B H e s) (n := n) (B := 1000000) (fun i a b => (key i a b).2)
  omega
theorem c_overlap1 (hL : zLand M C R) (hh : zh (z1 o) h2 = (1, 96)) (hz : h2 ≠ 0) (hB : ∀ c : Int, 0 ≤ c → c < C * R → M h2 c = B c ∧ 0 ≤ B c ∧ B c ≤ 1000000) (hH : ∀ c : Int, 0 ≤ c → c < C * R → M 25 c = H c ∧ 0 ≤ H c ∧ H c ≤ 1000000) (he : 0 ≤ e ∧ e < C) (hs : 0 ≤ s ∧ s < R) : zKi g (z1 o) mX9_overlap [zA g 1, zA g h2, zI e, zI s] M (fun r M' => r = smt (ovf C R B H e s) (C * R).toNat ∧ M' = M) := by
  have hn := geo_n hL.1
  have e14 : M 14 2 = C * R := hL.2.2.2.1
  obtain ⟨n, hnn⟩ := znn (show 0 ≤ C * R by omega)
  rw [show (C * R).toNat = n by omega]
  refine zki_of rfl (Nat.le_of_ble_eq_true rfl) (SX9_overlap_0 hh hz ?_)
  refine zup (fun i => zT g (z1 o) mX9_overlap (zQi (z1 o) (fun r M' => r = smt (ovf C R B H e s) n ∧ M' = M)) 6 [(0, zA g 1), (1, zA g h2), (2, zI e), (3, zI s), (4, zI (smt (ovf C R B H e s) i)), (5, zI i)] [] M) n (SX9_overlap_6 hh hz ⟨by omega, by omega, fun _ => ⟨rfl, rfl⟩, fun h => by omega⟩) (fun i hi ih => ?_)
  have b1 := hB i (by omega) (by omega)
  have hc : 0 ≤ (i : Int) ∧ (i : Int) < C * R := by omega
  have a2 := alg_in (w := 1) (k := s) hL.1 (alg_in (w := 0) (k := e) hL.1 hc)
  have b2 := hH _ a2.1 a2.2
  refine SX9_overlap_6 hh hz ⟨by omega, by omega, fun h => by omega, fun _ => ⟨_, c_moved hL hc he hs, fun r M5 hq => ?_⟩⟩
  obtain ⟨rfl, rfl⟩ := hq
  refine ⟨by omega, by omega, by omega, by omega, ?_⟩
  rw [b1.1, b2.1]; exact ih
theorem c_overlap2 (h : zRf M C R) {b : Nat} (hb : b < 3) (hB : ∀ c : Int, 0 ≤ c → c < C * R → M 16 (198 * b + c) = B c ∧ 0 ≤ B c ∧ B c ≤ 1000000) (hH : ∀ c : Int, 0 ≤ c → c < C * R → M 10 c = H c ∧ 0 ≤ H c ∧ H c ≤ 1000000) (he : 0 ≤ e ∧ e < C) (hs : 0 ≤ s ∧ s < R) : zKi g (z2 o) mX10_overlap [zA g 1, zI b, zI e, zI s] M (fun r M' => r = smt (ovf C R B H e s) (C * R).toNat ∧ M' = M) := by
  have hn := geo_n h.1
  obtain ⟨g1, g2, g3, g4⟩ := h.1
  obtain ⟨n, hnn⟩ := znn (show 0 ≤ C * R by omega)
  rw [show (C * R).toNat = n by omega]
  refine zki_of rfl (Nat.le_of_ble_eq_true rfl) (SX10_overlap_0 ?_)
  refine zup (fun i => zT g (z2 o) mX10_overlap (zQi (z2 o) (fun r M' => r = smt (ovf C R B H e s) n ∧ M' = M)) 6 [(0, zA g 1), (1, zI b), (2, zI e), (3, zI s), (4, zI (smt (ovf C R B H e s) i)), (5, zI i)] [] M) n (SX10_overlap_6 (C := C) (R := R) ⟨h, by omega, by omega, fun _ => ⟨rfl, rfl⟩, fun h => by omega⟩) (fun i hi ih => ?_)
  have b1 := hB i (by omega) (by omega)
  have hc : 0 ≤ (i : Int) ∧ (i : Int) < C * R := by omega
  have a2 := alg_in (w := 1) (k := s) h.1 (alg_in (w := 0) (k := e) h.1 hc)
  have b2 := hH _ a2.1 a2.2
  refine SX10_overlap_6 (C := C) (R := R) ⟨h, by omega, by omega, fun h => by omega, fun _ => ⟨by omega, hc, by omega, by omega, by omega, by omega, by omega, ?_⟩⟩
  rw [b1.1, b2.1]; exact ih
/-- the best so far, and where -/
def sbm (F : Int → Int) : Nat → Int × Int
  | 0 => (-1, 0)
  | j + 1 => if (sbm F j).1 < F j then (F j, j) else sbm F j
theorem sbm_in {F : Int → Int} {B : Int} (n : Nat) (hB : -1 ≤ B) (h : ∀ i : Nat, i < n → -1 ≤ F i ∧ F i ≤ B) : (-1 ≤ (sbm F n).1 ∧ (sbm F n).1 ≤ B) ∧ 0 ≤ (sbm F n).2 ∧ (sbm F n).2 ≤ n := by
  induction n with
  | zero => exact ⟨⟨Int.le_refl _, hB⟩, Int.le_refl 0, Int.le_refl 0⟩
  | succ n ih =>
    have i := ih (fun i hi => h i (by omega))
    have j := h n (by omega)
    unfold sbm
    split
    · exact ⟨j, by omega, by show (n : Int) ≤ ((n + 1 : Nat) : Int); omega⟩
    · omega
theorem p_shift (hJ : Jt k C R M1 M2) (hk : k < 1000) (h1 : -2147483648 ≤ x1 ∧ x1 ≤ 2147483647) (h2 : -2147483648 ≤ x2 ∧ x2 ≤ 2147483647) : zE g g' o o' mX9_shift mX10_shift [zI x1, zI x2] k M1 M2 := by
  obtain ⟨hL, hR⟩ := hJ.lr
  have hn := geo_n hL.1
  obtain ⟨g1, g2, g3, g4⟩ := hL.1
  obtain ⟨k1, k2, k3⟩ := hJ.kok
  have hk0 := hJ.1
  have hok : ∀ c : Int, 0 ≤ c → c < C * R → 0 ≤ M2 10 c ∧ M2 10 c ≤ 1000000 := fun c a b => hJ.ok.1 c a (by omega)
  by_cases hx : (0 ≤ x1 ∧ x1 < 3) ∧ M2 17 x1 = 1
  · by_cases hy : 0 ≤ x2 ∧ x2 ≤ 2
    · have hx1 : (0 ≤ x1 ∧ x1 < 3) ∧ M1 148 x1 = 1 := ⟨hx.1, by rw [k3 x1 hx.1.1 hx.1.2]; exact hx.2⟩
      obtain ⟨b, hb⟩ := znn hx.1.1
      subst hb
      have hb3 : b < 3 := by omega
      obtain ⟨j1, j2, j3, j4⟩ := hJ.2.2.2.2.2.1 b hb3
      obtain ⟨j5, j6⟩ := j4 hx.2
      have hbx : ∀ c : Int, 0 ≤ c → c < C * R → 0 ≤ rwk (M2 16) b c ∧ rwk (M2 16) b c ≤ 1000000 := fun c a q => by have := j6.1 c a (by omega); omega
      have hz := zsd_box hb3
      obtain ⟨cn, rfl⟩ := znn (show 0 ≤ C by omega)
      obtain ⟨rn, rfl⟩ := znn (show 0 ≤ R by omega)
      have hF : ∀ y x : Nat, x < cn → (fun j : Int => smt (ovf cn rn (rwk (M2 16) b) (M2 10) (j % cn) (j / cn)) ((cn : Int) * rn).toNat) ((cn * y + x : Nat) : Int) = smt (ovf cn rn (rwk (M2 16) b) (M2 10) x y) ((cn : Int) * rn).toNat := fun y x h => by
        have q := dv (C := (cn : Int)) (x := x) (y := y) ⟨by omega, by omega⟩
        have e : ((cn * y + x : Nat) : Int) = (cn : Int) * y + x := by rw [Int.natCast_add, Int.natCast_mul]
        show smt (ovf cn rn (rwk (M2 16) b) (M2 10) (((cn * y + x : Nat) : Int) % cn) (((cn * y + x : Nat) : Int) / cn)) _ = _
        rw [e, q.1, q.2]
      obtain ⟨F, eF⟩ : ∃ F : Int → Int, F = fun j : Int => smt (ovf cn rn (rwk (M2 16) b) (M2 10) (j % cn) (j / cn)) ((cn : Int) * rn).toNat := ⟨_, rfl⟩
      rw [← eF] at hF
      have Fin : ∀ j : Nat, -1 ≤ F j ∧ F j ≤ 96000000 := fun j => by
        have := ovf_in (e := (j : Int) % cn) (s := (j : Int) / cn) hL.1 hbx hok ((cn : Int) * rn).toNat (by omega)
        rw [eF]; show -1 ≤ smt _ _ ∧ smt _ _ ≤ 96000000; omega
      have sin : ∀ j : Nat, (-1 ≤ (sbm F j).1 ∧ (sbm F j).1 ≤ 96000000) ∧ 0 ≤ (sbm F j).2 ∧ (sbm F j).2 ≤ j := fun j => sbm_in j (by decide) (fun i _ => Fin i)
      have ss : ∀ j : Nat, sbm F (j + 1) = if (sbm F j).1 < F j then (F j, (j : Int)) else sbm F j := fun j => rfl
      have hend : ((cn * rn : Nat) : Int) = (cn : Int) * rn := Int.natCast_mul _ _
      refine zE_of (A := if x2 = 0 then (sbm F (cn * rn)).2 % cn else if x2 = 1 then (sbm F (cn * rn)).2 / cn else (sbm F (cn * rn)).1) hJ hk (zki_of rfl (Nat.le_of_ble_eq_true rfl) (SX9_shift_0 ⟨h1, k1, fun h => absurd hx1 h, fun _ => ⟨h2, fun h => by omega, fun _ => ⟨fun _ => ?_, fun h => by omega⟩⟩⟩)) (zki_of rfl (Nat.le_of_ble_eq_true rfl) (SX10_shift_0 ⟨h1, k2, fun h => absurd hx h, fun _ => ⟨h2, fun _ => ?_, fun h => absurd hy h⟩⟩))
      · suffices hs : ∀ jy y : Nat, y + jy = rn → zT g (z1 o) mX9_shift (zQi (z1 o) (fun r N => r = (if x2 = 0 then (sbm F (cn * rn)).2 % cn else if x2 = 1 then (sbm F (cn * rn)).2 / cn else (sbm F (cn * rn)).1) ∧ fr1 M1 N)) 30 [(0, zA g 1), (1, zI b), (2, zI x2), (3, zI (sbm F (cn * y)).1), (4, zI ((sbm F (cn * y)).2 % cn)), (5, zI ((sbm F (cn * y)).2 / cn)), (6, zI y)] [] M1 by
          have := hs rn 0 (by omega)
          simpa [sbm] using this
        intro jy
        have e0 : M1 14 0 = cn := hL.2.1
        have e1 : M1 14 1 = rn := hL.2.2.1
        induction jy with
        | zero =>
          intro y hy'
          rw [show y = rn by omega]
          refine SX9_shift_30 ⟨by omega, by omega, fun _ => ⟨h2, fun h => ⟨by rw [if_pos h], fr1.rf⟩, fun h => ⟨by rw [if_neg (by omega), if_pos h], fr1.rf⟩, fun h => ⟨by rw [if_neg h.1, if_neg h.2], fr1.rf⟩⟩, fun h => by omega⟩
        | succ jy ihy =>
          intro y hy'
          refine SX9_shift_30 ⟨by omega, by omega, fun h => by omega, fun _ => ?_⟩
          suffices hs : ∀ jx x : Nat, x + jx = cn → zT g (z1 o) mX9_shift (zQi (z1 o) (fun r N => r = (if x2 = 0 then (sbm F (cn * rn)).2 % cn else if x2 = 1 then (sbm F (cn * rn)).2 / cn else (sbm F (cn * rn)).1) ∧ fr1 M1 N)) 45 [(0, zA g 1), (1, zI b), (2, zI x2), (3, zI (sbm F (cn * y + x)).1), (4, zI ((sbm F (cn * y + x)).2 % cn)), (5, zI ((sbm F (cn * y + x)).2 / cn)), (6, zI y), (7, zI x)] [] M1 from hs cn 0 (by omega)
          intro jx
          induction jx with
          | zero =>
            intro x hx'
            rw [show x = cn by omega]
            exact SX9_shift_45 ⟨by omega, by omega, fun _ => ihy (y + 1) (by omega), fun h => by omega⟩
          | succ jx ihx =>
            intro x hx'
            have s1 := sin (cn * y + x)
            have nx := ihx (x + 1) (by omega)
            have ff := hF y x (by omega)
            have fi := Fin (cn * y + x)
            have q := dv (C := (cn : Int)) (x := x) (y := y) ⟨by omega, by omega⟩
            have e : ((cn * y + x : Nat) : Int) = (cn : Int) * y + x := by rw [Int.natCast_add, Int.natCast_mul]
            refine SX9_shift_45 ⟨by omega, by omega, fun h => by omega, fun _ => ⟨by omega, 136 + 4 * b, j1, hz, _, c_overlap1 (B := rwk (M2 16) b) (H := M2 10) hL (zsd_1 hz) (by omega) (fun c a q => ⟨j5.1 c a (by omega), hbx c a q⟩) (fun c a q => ⟨hJ.eh c a (by omega), hok c a q⟩) (by omega) (by omega), fun r M7 hq => ?_⟩⟩
            obtain ⟨hr, rfl⟩ := hq
            rw [← ff] at hr
            refine ⟨by omega, by omega, fun h => ?_, fun h => ?_⟩
            · have es : sbm F (cn * y + (x + 1)) = sbm F (cn * y + x) := by rw [← Nat.add_assoc, ss, if_neg (by omega)]
              rw [es] at nx; exact nx
            · have es : sbm F (cn * y + (x + 1)) = (F ((cn * y + x : Nat) : Int), ((cn * y + x : Nat) : Int)) := by rw [← Nat.add_assoc, ss, if_pos (by omega)]
              rw [es] at nx
              rw [e, q.1, q.2, ← e, ← hr] at nx
              exact nx
      · suffices hs : ∀ jy y : Nat, y + jy = rn → zT g' (z2 o') mX10_shift (zQi (z2 o') (fun r N => r = (if x2 = 0 then (sbm F (cn * rn)).2 % cn else if x2 = 1 then (sbm F (cn * rn)).2 / cn else (sbm F (cn * rn)).1) ∧ fr2 M2 N)) 27 [(0, zA g' 1), (1, zI b), (2, zI x2), (3, zI (sbm F (cn * y)).2), (4, zI (sbm F (cn * y)).1), (5, zI y)] [] M2 from hs rn 0 (by omega)
        intro jy
        induction jy with
        | zero =>
          intro y hy'
          have s1 := sin (cn * rn)
          rw [show y = rn by omega]
          refine SX10_shift_27 (C := cn) (R := rn) ⟨hR, by omega, by omega, fun _ => ⟨h2, fun h => ⟨fun h' => ⟨by rw [if_neg h, if_neg h'], fr2.rf⟩, fun h' => ⟨by omega, by omega, by rw [if_neg h, if_pos h'], fr2.rf⟩⟩, fun h => ⟨by omega, by omega, by rw [if_pos h], fr2.rf⟩⟩, fun h => by omega⟩
        | succ jy ihy =>
          intro y hy'
          refine SX10_shift_27 (C := cn) (R := rn) ⟨hR, by omega, by omega, fun h => by omega, fun _ => ?_⟩
          suffices hs : ∀ jx x : Nat, x + jx = cn → zT g' (z2 o') mX10_shift (zQi (z2 o') (fun r N => r = (if x2 = 0 then (sbm F (cn * rn)).2 % cn else if x2 = 1 then (sbm F (cn * rn)).2 / cn else (sbm F (cn * rn)).1) ∧ fr2 M2 N)) 39 [(0, zA g' 1), (1, zI b), (2, zI x2), (3, zI (sbm F (cn * y + x)).2), (4, zI (sbm F (cn * y + x)).1), (5, zI y), (6, zI x)] [] M2 from hs cn 0 (by omega)
          intro jx
          induction jx with
          | zero =>
            intro x hx'
            rw [show x = cn by omega]
            exact SX10_shift_39 (C := cn) (R := rn) ⟨hR, by omega, by omega, fun _ => ihy (y + 1) (by omega), fun h => by omega⟩
          | succ jx ihx =>
            intro x hx'
            have s1 := sin (cn * y + x)
            have nx := ihx (x + 1) (by omega)
            have ff := hF y x (by omega)
            have fi := Fin (cn * y + x)
            have e : ((cn * y + x : Nat) : Int) = (cn : Int) * y + x := by rw [Int.natCast_add, Int.natCast_mul]
            refine SX10_shift_39 (C := cn) (R := rn) ⟨hR, by omega, by omega, fun h => by omega, fun _ => ⟨_, c_overlap2 (B := rwk (M2 16) b) (H := M2 10) hR hb3 (fun c a q => ⟨rfl, hbx c a q⟩) (fun c a q => ⟨rfl, hok c a q⟩) (by omega) (by omega), fun r M7 hq => ?_⟩⟩
            obtain ⟨hr, rfl⟩ := hq
            rw [← ff] at hr
            refine ⟨by omega, by omega, fun h => ⟨hR, ?_⟩, fun h => ?_⟩
            · have es : sbm F (cn * y + (x + 1)) = (F ((cn * y + x : Nat) : Int), ((cn * y + x : Nat) : Int)) := by rw [← Nat.add_assoc, ss, if_pos (by omega)]
              rw [es, ← hr, e] at nx
              exact nx
            · have es : sbm F (cn * y + (x + 1)) = sbm F (cn * y + x) := by rw [← Nat.add_assoc, ss, if_neg (by omega)]
              rw [es] at nx; exact nx
    · exact zE_of (A := -1) hJ hk (zki_of rfl (Nat.le_of_ble_eq_true rfl) (SX9_shift_0 ⟨h1, k1, fun _ => ⟨rfl, fr1.rf⟩, fun _ => ⟨h2, fun _ => ⟨rfl, fr1.rf⟩, fun _ => ⟨fun h => by omega, fun _ => ⟨rfl, fr1.rf⟩⟩⟩⟩)) (zki_of rfl (Nat.le_of_ble_eq_true rfl) (SX10_shift_0 ⟨h1, k2, fun _ => ⟨rfl, fr2.rf⟩, fun _ => ⟨h2, fun h => absurd h hy, fun _ => ⟨rfl, fr2.rf⟩⟩⟩))
  · have hx1 : ¬ ((0 ≤ x1 ∧ x1 < 3) ∧ M1 148 x1 = 1) := fun h => hx ⟨h.1, by rw [← k3 x1 h.1.1 h.1.2]; exact h.2⟩
    exact zE_of (A := -1) hJ hk (zki_of rfl (Nat.le_of_ble_eq_true rfl) (SX9_shift_0 ⟨h1, k1, fun _ => ⟨rfl, fr1.rf⟩, fun h => absurd h hx1⟩)) (zki_of rfl (Nat.le_of_ble_eq_true rfl) (SX10_shift_0 ⟨h1, k2, fun _ => ⟨rfl, fr2.rf⟩, fun h => absurd h hx⟩))
end SH
