def sOk (M : zM) (s : Nat) : Prop := SandOK M s 1000000 1000000
def rOk (M : zM) : Prop := RefOK M 1000000 1000000
def adf (a b : Int) : Int := if 0 ≤ a - b then a - b else 0 - (a - b)
/-- how much higher than the lowest one beside -/
def stw (C R : Int) (H : Int → Int) (c : Int) : Nat → Int
  | 0 => 0
  | n + 1 => max (stw C R H c n) (H c - H (alg C R c n 1))
section QA
variable {g : zG} {o : Bool} {M : zM} {C R c x : Int} {s : Nat} {H H' : Int → Int}
theorem stw_in (hG : Geo C R) (hc : 0 ≤ c ∧ c < C * R) {B : Int} (hB : BdB B H) (n : Nat) (hb : 0 ≤ B) : 0 ≤ stw C R H c n ∧ stw C R H c n ≤ B := by
  have hn := geo_n hG
  induction n with
  | zero => exact ⟨Int.le_refl 0, hb⟩
  | succ n ih =>
    have a1 := alg_in (w := (n : Int)) (k := 1) hG hc
    have b1 := hB _ a1.1 (by omega)
    have b2 := hB c hc.1 (by omega)
    show 0 ≤ max (stw C R H c n) _ ∧ max (stw C R H c n) _ ≤ B
    omega
theorem stw_eq (hG : Geo C R) (hc : 0 ≤ c ∧ c < C * R) (h : eq96 H H') (n : Nat) : stw C R H c n = stw C R H' c n := by
  have hn := geo_n hG
  induction n with
  | zero => rfl
  | succ n ih =>
    have a1 := alg_in (w := (n : Int)) (k := 1) hG hc
    show max (stw C R H c n) _ = max (stw C R H' c n) _
    rw [ih, h c hc.1 (by omega), h _ a1.1 (by omega)]
theorem c_windNow1 (hL : zLand M C R) (hO : sOk M 24) : zKi g (z1 o) mX9_windNow [zA g 1] M (fun r M' => r = wnd M (M 24 4) ∧ M' = M) := by
  obtain ⟨o1, o2, o3, o4, o5, o6, o7, o8⟩ := hO
  exact zki_of rfl (Nat.le_of_ble_eq_true rfl) (SX9_windNow_0 ⟨hL, by omega, rfl, rfl⟩)
theorem c_steepness (hL : zLand M C R) (hO : sOk M 24) (hc : 0 ≤ c ∧ c < C * R) : zKi g (z1 o) mX9_steepness [zA g 1, zI c] M (fun r M' => r = stw C R (M 25) c 4 ∧ M' = M) := by
  have hn := geo_n hL.1
  have hB : BdB 1000000 (M 25) := hO.1
  refine zki_of rfl (Nat.le_of_ble_eq_true rfl) (SX9_steepness_0 ?_)
  refine zup (fun k => zT g (z1 o) mX9_steepness (zQi (z1 o) (fun r M' => r = stw C R (M 25) c 4 ∧ M' = M)) 4 [(0, zA g 1), (1, zI c), (2, zI (stw C R (M 25) c k)), (3, zI k)] [] M) 4 (SX9_steepness_4 (C := C) (R := R) ⟨by omega, fun _ => ⟨rfl, rfl⟩, fun h => by omega⟩) (fun k hk ih => ?_)
  have a1 := alg_in (w := (k : Int)) (k := 1) hL.1 hc
  have b1 := hB _ a1.1 (by omega)
  have b2 := hB c hc.1 (by omega)
  have b3 := stw_in hL.1 hc hB k (by decide)
  exact SX9_steepness_4 ⟨by omega, fun h => by omega, fun h => ⟨by omega, hL, hc, by omega, by omega, by omega, by omega, ih⟩⟩
theorem c_grassy (hL : zLand M C R) (hO : sOk M 24) : zKi g (z1 o) mX9_grassy [zA g 1] M (fun r M' => r = smt (M 26) (C * R).toNat ∧ M' = M) := by
  have hn := geo_n hL.1
  have e : M 14 2 = C * R := hL.2.2.2.1
  obtain ⟨n, hnn⟩ := znn (show 0 ≤ C * R by omega)
  rw [hnn] at e hn ⊢
  rw [Int.toNat_natCast]
  refine zki_of rfl (Nat.le_of_ble_eq_true rfl) (SX9_grassy_0 ?_)
  refine zup (fun k => zT g (z1 o) mX9_grassy (zQi (z1 o) (fun r M' => r = smt (M 26) n ∧ M' = M)) 4 [(0, zA g 1), (1, zI (smt (M 26) k)), (2, zI k)] [] M) n (SX9_grassy_4 ⟨by omega, by omega, fun _ => ⟨rfl, rfl⟩, fun h => by omega⟩) (fun k hk ih => ?_)
  exact SX9_grassy_4 ⟨by omega, by omega, fun h => by omega, fun h => ⟨by omega, ih⟩⟩
theorem c_sownMany (h : zRf M C R) : zKi g (z2 o) mX10_sownMany [zA g 1] M (fun r M' => r = smt (fun i => M 10 (96 + i)) (C * R).toNat ∧ M' = M) := by
  have hn := geo_n h.1
  obtain ⟨n, hnn⟩ := znn (show 0 ≤ C * R by omega)
  rw [show (C * R).toNat = n by omega]
  refine zki_of rfl (Nat.le_of_ble_eq_true rfl) (SX10_sownMany_0 ?_)
  refine zup (fun k => zT g (z2 o) mX10_sownMany (zQi (z2 o) (fun r M' => r = smt (fun i => M 10 (96 + i)) n ∧ M' = M)) 4 [(0, zA g 1), (1, zI (smt (fun i => M 10 (96 + i)) k)), (2, zI k)] [] M) n (SX10_sownMany_4 ⟨h, by omega, by omega, fun _ => ⟨rfl, rfl⟩, fun h => by omega⟩) (fun k hk ih => ?_)
  exact SX10_sownMany_4 ⟨h, by omega, by omega, fun h => by omega, fun h => ⟨by omega, ih⟩⟩
theorem c_roundTries (h : zRf M C R) : zKi g (z2 o) mX10_roundTries [zA g 1] M (fun r M' => r = smt (M 5) (M 3 9).toNat ∧ M' = M) := by
  have h9 := h.2.2.2.2.1
  obtain ⟨n, hnn⟩ := znn (show 0 ≤ M 3 9 by omega)
  rw [show (M 3 9).toNat = n by omega]
  refine zki_of rfl (Nat.le_of_ble_eq_true rfl) (SX10_roundTries_0 ?_)
  refine zup (fun k => zT g (z2 o) mX10_roundTries (zQi (z2 o) (fun r M' => r = smt (M 5) n ∧ M' = M)) 4 [(0, zA g 1), (1, zI (smt (M 5) k)), (2, zI k)] [] M) n (SX10_roundTries_4 ⟨by omega, by omega, fun _ => ⟨rfl, rfl⟩, fun h => by omega⟩) (fun k hk ih => ?_)
  exact SX10_roundTries_4 ⟨by omega, by omega, fun h => by omega, fun h => ⟨by omega, ih⟩⟩
theorem c_lowestBeside (h : zRf M C R) (hO : rOk M) (hc : 0 ≤ c ∧ c < C * R) : zKi g (z2 o) mX10_lowestBeside [zA g 1, zI c] M (fun r M' => r = M 11 (alg C R c (pmn C R (M 11) c 3) 1) ∧ M' = M) := by
  have hn := geo_n h.1
  have p := pmn_in (C := C) (R := R) (H := M 11) (c := c) 3
  have a1 := alg_in (w := pmn C R (M 11) c 3) (k := 1) h.1 hc
  exact zki_of rfl (Nat.le_of_ble_eq_true rfl) (SX10_lowestBeside_0 ⟨h, hc, hO.1.le (by decide), by omega, by omega, rfl, rfl⟩)
theorem c_isCrest (h : zRf M C R) (hO : rOk M) (hc : 0 ≤ c ∧ c < C * R) : zKi g (z2 o) mX10_isCrest [zA g 1, zI c] M (fun r M' => r = zb (crest C R (M 11) c (wnr M (M 11 197))) ∧ M' = M) := by
  have hn := geo_n h.1
  obtain ⟨o1, o2, o3, o4, o5, o6, o7, o8⟩ := hO
  have w1 := wnr_in (t := M 11 197) h o8.1
  have w2 := opp_in w1
  have a1 := alg_in (w := wnr M (M 11 197)) (k := 1) h.1 hc
  have a2 := alg_in (w := opp (wnr M (M 11 197))) (k := 1) h.1 hc
  have b0 := o1 c hc.1 (by omega)
  have b1 := o1 _ a1.1 (by omega)
  have b2 := o1 _ a2.1 (by omega)
  refine zki_of rfl (Nat.le_of_ble_eq_true rfl) (SX10_isCrest_0 ⟨h, by omega, by omega, by omega, fun h4 => ⟨(zb_f ?_).symm, rfl⟩, fun h4 => ⟨w1, hc, w2, by omega, by omega, fun h5 => ⟨(zb_f ?_).symm, rfl⟩, fun h5 => ⟨by omega, by omega, fun h6 => ⟨(zb_f ?_).symm, rfl⟩, fun h6 => ⟨(zb_t ?_).symm, rfl⟩⟩⟩⟩)
  · rintro ⟨q, -, -⟩; omega
  · rintro ⟨-, q, -⟩; omega
  · rintro ⟨-, -, q⟩; omega
  · exact ⟨by omega, by omega, by omega⟩
theorem c_slabsR (h : zRf M C R) (hO : rOk M) : zKi g (z2 o) mX10_slabs [zA g 1] M (fun r M' => r = smt (M 11) (C * R).toNat ∧ M' = M) := by
  have hn := geo_n h.1
  obtain ⟨n, hnn⟩ := znn (show 0 ≤ C * R by omega)
  rw [show (C * R).toNat = n by omega]
  refine zki_of rfl (Nat.le_of_ble_eq_true rfl) (SX10_slabs_0 ?_)
  refine zup (fun k => zT g (z2 o) mX10_slabs (zQi (z2 o) (fun r M' => r = smt (M 11) n ∧ M' = M)) 4 [(0, zA g 1), (1, zI (smt (M 11) k)), (2, zI k)] [] M) n (SX10_slabs_4 ⟨h, by omega, by omega, fun _ => ⟨rfl, rfl⟩, fun h => by omega⟩) (fun k hk ih => ?_)
  exact SX10_slabs_4 ⟨h, by omega, by omega, fun h => by omega, fun h => ⟨by omega, ih⟩⟩
theorem c_highestR (h : zRf M C R) (hO : rOk M) : zKi g (z2 o) mX10_highest [zA g 1] M (fun r M' => r = mxt (M 11) (C * R).toNat ∧ M' = M) := by
  have hn := geo_n h.1
  obtain ⟨n, hnn⟩ := znn (show 0 ≤ C * R by omega)
  rw [show (C * R).toNat = n by omega]
  refine zki_of rfl (Nat.le_of_ble_eq_true rfl) (SX10_highest_0 ?_)
  refine zup (fun k => zT g (z2 o) mX10_highest (zQi (z2 o) (fun r M' => r = mxt (M 11) n ∧ M' = M)) 4 [(0, zA g 1), (1, zI (mxt (M 11) k)), (2, zI k)] [] M) n (SX10_highest_4 ⟨h, by omega, by omega, fun _ => ⟨rfl, rfl⟩, fun h => by omega⟩) (fun k hk ih => ?_)
  have b := hO.1 k (by omega) (by omega)
  have b' := mxt_in (f := M 11) (B := 1000000) (n := k) (by decide) (fun i h0 h1 => (hO.1 i h0 (by omega)).2)
  exact SX10_highest_4 ⟨h, by omega, by omega, fun h => by omega, fun h => ⟨by omega, by omega, by omega, ih⟩⟩
theorem c_bareR (h : zRf M C R) (hO : rOk M) : zKi g (z2 o) mX10_bare [zA g 1] M (fun r M' => r = cnt (fun i => M 11 i = 0) (C * R).toNat ∧ M' = M) := by
  have hn := geo_n h.1
  obtain ⟨n, hnn⟩ := znn (show 0 ≤ C * R by omega)
  rw [show (C * R).toNat = n by omega]
  refine zki_of rfl (Nat.le_of_ble_eq_true rfl) (SX10_bare_0 ?_)
  refine zup (fun k => zT g (z2 o) mX10_bare (zQi (z2 o) (fun r M' => r = cnt (fun i => M 11 i = 0) n ∧ M' = M)) 4 [(0, zA g 1), (1, zI (cnt (fun i => M 11 i = 0) k)), (2, zI k)] [] M) n (SX10_bare_4 ⟨h, by omega, by omega, fun _ => ⟨rfl, rfl⟩, fun h => by omega⟩) (fun k hk ih => ?_)
  have b := hO.1 k (by omega) (by omega)
  refine SX10_bare_4 ⟨h, by omega, by omega, fun h => by omega, fun h => ⟨by omega, by omega, fun h5 => ?_, fun h5 => ?_⟩⟩
  · rw [show cnt (fun i => M 11 i = 0) (k + 1) = cnt (fun i => M 11 i = 0) k + 0 by show _ + zb (M 11 k = 0) = _; rw [zb_f h5]] at ih; exact ih
  · rw [show cnt (fun i => M 11 i = 0) (k + 1) = cnt (fun i => M 11 i = 0) k + 1 by show _ + zb (M 11 k = 0) = _; rw [zb_t h5]] at ih; exact ih
theorem adf_in {a b B : Int} (ha : 0 ≤ a ∧ a ≤ B) (hb : 0 ≤ b ∧ b ≤ B) : 0 ≤ adf a b ∧ adf a b ≤ B := by unfold adf; split <;> omega
theorem c_steepest (h : zRf M C R) (hO : rOk M) : zKi g (z2 o) mX10_steepest [zA g 1] M (fun r M' => r = mxt (fun c => max (adf (M 11 c) (M 11 (alg C R c 0 1))) (adf (M 11 c) (M 11 (alg C R c 1 1)))) (C * R).toNat ∧ M' = M) := by
  have hn := geo_n h.1
  obtain ⟨n, hnn⟩ := znn (show 0 ≤ C * R by omega)
  rw [show (C * R).toNat = n by omega]
  have hF : ∀ i : Int, 0 ≤ i → i < n → ∀ w : Int, 0 ≤ adf (M 11 i) (M 11 (alg C R i w 1)) ∧ adf (M 11 i) (M 11 (alg C R i w 1)) ≤ 1000000 := fun i h0 h1 w => by
    have a := alg_in (w := w) (k := 1) h.1 (c := i) (by omega)
    exact adf_in (hO.1 i h0 (by omega)) (hO.1 _ a.1 (by omega))
  refine zki_of rfl (Nat.le_of_ble_eq_true rfl) (SX10_steepest_0 ?_)
  refine zup (fun k => zT g (z2 o) mX10_steepest (zQi (z2 o) (fun r M' => r = mxt (fun c => max (adf (M 11 c) (M 11 (alg C R c 0 1))) (adf (M 11 c) (M 11 (alg C R c 1 1)))) n ∧ M' = M)) 4 [(0, zA g 1), (1, zI (mxt (fun c => max (adf (M 11 c) (M 11 (alg C R c 0 1))) (adf (M 11 c) (M 11 (alg C R c 1 1)))) k)), (2, zI k)] [] M) n (SX10_steepest_4 ⟨h, by omega, by omega, fun _ => ⟨rfl, rfl⟩, fun h => by omega⟩) (fun k hk ih => ?_)
  have hc : 0 ≤ (k : Int) ∧ (k : Int) < C * R := by omega
  have f0 := hF k hc.1 (by omega) 0
  have f1 := hF k hc.1 (by omega) 1
  have a0 := alg_in (w := 0) (k := 1) h.1 hc
  have a1 := alg_in (w := 1) (k := 1) h.1 hc
  have b := hO.1 k (by omega) (by omega)
  have b0 := hO.1 _ a0.1 (by omega)
  have b1 := hO.1 _ a1.1 (by omega)
  have bm := mxt_in (f := fun c => max (adf (M 11 c) (M 11 (alg C R c 0 1))) (adf (M 11 c) (M 11 (alg C R c 1 1)))) (B := 1000000) (n := k) (by decide) (fun i h0 h1 => by have := hF i h0 (by omega) 0; have := hF i h0 (by omega) 1; show max _ _ ≤ _; omega)
  refine SX10_steepest_4 ⟨h, by omega, by omega, fun h => by omega, fun _ => ?_⟩
  refine SX10_steepest_14 ⟨by omega, fun h => by omega, fun _ => ⟨by omega, h, hc, by omega, by omega, by omega, by omega, by omega, ?_⟩⟩
  rw [show ∀ x y : Int, (if 0 ≤ x - y then x - y else 0 - (x - y)) = adf x y from fun _ _ => rfl]
  refine ⟨by omega, SX10_steepest_14 ⟨by omega, fun h => by omega, fun _ => ⟨by omega, h, hc, by omega, ?_⟩⟩⟩
  rw [Int.zero_add]
  refine ⟨by omega, by omega, by omega, by omega, ?_⟩
  rw [show ∀ x y : Int, (if 0 ≤ x - y then x - y else 0 - (x - y)) = adf x y from fun _ _ => rfl]
  refine ⟨by omega, SX10_steepest_14 (C := C) (R := R) ⟨by omega, fun _ => ?_, fun h => by omega⟩⟩
  rw [show ∀ x y z : Int, max (max x y) z = max x (max y z) from fun x y z => by omega]
  exact ih
theorem c_rough (h : zRf M C R) (hO : rOk M) : zKi g (z2 o) mX10_rough [zA g 1] M (fun r M' => r = smt (fun c => adf (M 11 c) (M 11 (alg C R c 0 1)) + adf (M 11 c) (M 11 (alg C R c 1 1))) (C * R).toNat ∧ M' = M) := by
  have hn := geo_n h.1
  obtain ⟨n, hnn⟩ := znn (show 0 ≤ C * R by omega)
  rw [show (C * R).toNat = n by omega]
  refine zki_of rfl (Nat.le_of_ble_eq_true rfl) (SX10_rough_0 ?_)
  refine zup (fun k => zT g (z2 o) mX10_rough (zQi (z2 o) (fun r M' => r = smt (fun c => adf (M 11 c) (M 11 (alg C R c 0 1)) + adf (M 11 c) (M 11 (alg C R c 1 1))) n ∧ M' = M)) 4 [(0, zA g 1), (1, zI (smt (fun c => adf (M 11 c) (M 11 (alg C R c 0 1)) + adf (M 11 c) (M 11 (alg C R c 1 1))) k)), (2, zI k)] [] M) n (SX10_rough_4 ⟨h, by omega, by omega, fun _ => ⟨rfl, rfl⟩, fun h => by omega⟩) (fun k hk ih => ?_)
  have hc : 0 ≤ (k : Int) ∧ (k : Int) < C * R := by omega
  have a0 := alg_in (w := 0) (k := 1) h.1 hc
  have a1 := alg_in (w := 1) (k := 1) h.1 hc
  have b := hO.1 k (by omega) (by omega)
  have b0 := hO.1 _ a0.1 (by omega)
  have b1 := hO.1 _ a1.1 (by omega)
  refine SX10_rough_4 ⟨h, by omega, by omega, fun h => by omega, fun _ => ?_⟩
  refine SX10_rough_14 ⟨by omega, fun h => by omega, fun _ => ⟨by omega, h, hc, by omega, by omega, by omega, by omega, ?_⟩⟩
  refine SX10_rough_14 ⟨by omega, fun h => by omega, fun _ => ⟨by omega, h, hc, by omega, ?_⟩⟩
  rw [Int.zero_add]
  refine ⟨by omega, by omega, by omega, SX10_rough_14 (C := C) (R := R) ⟨by omega, fun _ => ?_, fun h => by omega⟩⟩
  rw [Int.add_assoc]
  exact ih
theorem c_shadows (h : zRf M C R) (hO : rOk M) : zKi g (z2 o) mX10_shadows [zA g 1] M (fun r M' => r = cnt (fun c => shd C R (M 11) (M 11 193) c (wnr M (M 11 197))) (C * R).toNat ∧ M' = M) := by
  have hn := geo_n h.1
  obtain ⟨o1, o2, o3, o4, o5, o6, o7, o8⟩ := hO
  obtain ⟨n, hnn⟩ := znn (show 0 ≤ C * R by omega)
  rw [show (C * R).toNat = n by omega]
  refine zki_of rfl (Nat.le_of_ble_eq_true rfl) (SX10_shadows_0 ?_)
  refine zup (fun k => zT g (z2 o) mX10_shadows (zQi (z2 o) (fun r M' => r = cnt (fun c => shd C R (M 11) (M 11 193) c (wnr M (M 11 197))) n ∧ M' = M)) 4 [(0, zA g 1), (1, zI (cnt (fun c => shd C R (M 11) (M 11 193) c (wnr M (M 11 197))) k)), (2, zI k)] [] M) n (SX10_shadows_4 ⟨h, by omega, by omega, fun _ => ⟨rfl, rfl⟩, fun h => by omega⟩) (fun k hk ih => ?_)
  exact SX10_shadows_4 ⟨h, by omega, by omega, fun h => by omega, fun h => ⟨by omega, by omega, o1.le (by decide), by omega, ih⟩⟩
theorem c_givers (h : zRf M C R) (hO : rOk M) : zKi g (z2 o) mX10_givers [zA g 1] M (fun r M' => r = cnt (fun c => yld C R (M 11) (fun i => M 11 (96 + i)) (M 11 193) c (wnr M (M 11 197))) (C * R).toNat ∧ M' = M) := by
  have hn := geo_n h.1
  obtain ⟨o1, o2, o3, o4, o5, o6, o7, o8⟩ := hO
  obtain ⟨n, hnn⟩ := znn (show 0 ≤ C * R by omega)
  rw [show (C * R).toNat = n by omega]
  refine zki_of rfl (Nat.le_of_ble_eq_true rfl) (SX10_givers_0 ?_)
  refine zup (fun k => zT g (z2 o) mX10_givers (zQi (z2 o) (fun r M' => r = cnt (fun c => yld C R (M 11) (fun i => M 11 (96 + i)) (M 11 193) c (wnr M (M 11 197))) n ∧ M' = M)) 4 [(0, zA g 1), (1, zI (cnt (fun c => yld C R (M 11) (fun i => M 11 (96 + i)) (M 11 193) c (wnr M (M 11 197))) k)), (2, zI k)] [] M) n (SX10_givers_4 ⟨h, by omega, by omega, fun _ => ⟨rfl, rfl⟩, fun h => by omega⟩) (fun k hk ih => ?_)
  have := o2 k (by omega) (by omega)
  exact SX10_givers_4 ⟨h, by omega, by omega, fun h => by omega, fun h => ⟨by omega, by omega, o1.le (by decide), by omega, by omega, ih⟩⟩
/-- the row at hand is what is now -/
theorem c_goesOn : zKv g (z2 o) mX10_goesOn [zA g 1] M (fun M' => eqr (M 10) (M' 11) ∧ M' 1 23 = 0 ∧ M' 1 24 = 0 ∧ M' 1 25 = 0 ∧ (∀ b : Nat, b ≠ 1 → b ≠ 11 → M' b = M b) ∧ ∀ i : Int, i ≠ 23 → i ≠ 24 → i ≠ 25 → M' 1 i = M 1 i) := by
  refine zkv_of rfl (Nat.le_of_ble_eq_true rfl) (SX10_goesOn_0 ?_)
  suffices hs : ∀ (n : Nat) (k : Int) (M1 : zM), 0 ≤ k → k + n = 198 → (∀ i : Int, 0 ≤ i → i < k → M1 11 i = M 10 i) → (∀ b : Nat, b ≠ 11 → M1 b = M b) → zT g (z2 o) mX10_goesOn (zQv (z2 o) (fun M' => eqr (M 10) (M' 11) ∧ M' 1 23 = 0 ∧ M' 1 24 = 0 ∧ M' 1 25 = 0 ∧ (∀ b : Nat, b ≠ 1 → b ≠ 11 → M' b = M b) ∧ ∀ i : Int, i ≠ 23 → i ≠ 24 → i ≠ 25 → M' 1 i = M 1 i)) 2 [(0, zA g 1), (1, zI k)] [] M1 from hs 198 0 M (by omega) (by omega) (fun i h0 h1 => by omega) (fun _ _ => rfl)
  intro n
  induction n with
  | zero =>
    intro k M1 h0 hk he hb
    refine SX10_goesOn_2 ⟨by omega, fun _ N2 e2 N4 e4 => ⟨fun i i0 i1 => ?_, ?_, ?_, ?_, fun b p q => ?_, fun i p q r => ?_⟩, fun h => by omega⟩
    · rw [zu_other (by decide), e4, zu_other (by decide), e2, zu_other (by decide)]; exact (he i i0 (by omega)).symm
    · rw [zu_row, if_neg (by decide), e4, zu_row, if_neg (by decide), e2, zu_at]
    · rw [zu_row, if_neg (by decide), e4, zu_at]
    · rw [zu_at]
    · rw [zu_other p, e4, zu_other p, e2, zu_other p, hb b q]
    · rw [zu_row, if_neg r, e4, zu_row, if_neg q, e2, zu_row, if_neg p, hb 1 (by decide)]
  | succ n ih =>
    intro k M1 h0 hk he hb
    refine SX10_goesOn_2 ⟨by omega, fun h => by omega, fun _ => ⟨by omega, ih (k + 1) _ (by omega) (by omega) (fun i i0 i1 => ?_) (fun b p => by rw [zu_other p, hb b p])⟩⟩
    rw [zu_row]
    by_cases e : i = k
    · rw [if_pos e, hb 10 (by decide), e]
    · rw [if_neg e]; exact he i i0 (by omega)
theorem c_keepsRow : zKv g (z2 o) mX10_keepsRow [zA g 1] M (fun M' => eqr (M 11) (M' 10) ∧ ∀ b : Nat, b ≠ 10 → M' b = M b) := by
  refine zkv_of rfl (Nat.le_of_ble_eq_true rfl) (SX10_keepsRow_0 ?_)
  suffices hs : ∀ (n : Nat) (k : Int) (M1 : zM), 0 ≤ k → k + n = 198 → (∀ i : Int, 0 ≤ i → i < k → M1 10 i = M 11 i) → (∀ b : Nat, b ≠ 10 → M1 b = M b) → zT g (z2 o) mX10_keepsRow (zQv (z2 o) (fun M' => eqr (M 11) (M' 10) ∧ ∀ b : Nat, b ≠ 10 → M' b = M b)) 2 [(0, zA g 1), (1, zI k)] [] M1 from hs 198 0 M (by omega) (by omega) (fun i h0 h1 => by omega) (fun _ _ => rfl)
  intro n
  induction n with
  | zero =>
    intro k M1 h0 hk he hb
    exact SX10_keepsRow_2 ⟨by omega, fun _ => ⟨fun i i0 i1 => (he i i0 (by omega)).symm, hb⟩, fun h => by omega⟩
  | succ n ih =>
    intro k M1 h0 hk he hb
    refine SX10_keepsRow_2 ⟨by omega, fun h => by omega, fun _ => ⟨by omega, ih (k + 1) _ (by omega) (by omega) (fun i i0 i1 => ?_) (fun b p => by rw [zu_other p, hb b p])⟩⟩
    rw [zu_row]
    by_cases e : i = k
    · rw [if_pos e, hb 11 (by decide), e]
    · rw [if_neg e]; exact he i i0 (by omega)
end QA
theorem dX9_shadedCells_0 : decode cX9_shadedCells 0 = .ok (.aload_n 0, 1) := by decide +kernel
theorem dX9_shadedCells_1 : decode cX9_shadedCells 1 = .ok (.invokevirtual 155, 3) := by decide +kernel
theorem dX9_shadedCells_4 : decode cX9_shadedCells 4 = .ok (.istore_n 1, 1) := by decide +kernel
theorem dX9_shadedCells_5 : decode cX9_shadedCells 5 = .ok (.iconst 0, 1) := by decide +kernel
theorem dX9_shadedCells_6 : decode cX9_shadedCells 6 = .ok (.istore_n 2, 1) := by decide +kernel
theorem dX9_shadedCells_7 : decode cX9_shadedCells 7 = .ok (.iconst 0, 1) := by decide +kernel
theorem dX9_shadedCells_8 : decode cX9_shadedCells 8 = .ok (.istore_n 3, 1) := by decide +kernel
theorem dX9_shadedCells_9 : decode cX9_shadedCells 9 = .ok (.iload_n 3, 1) := by decide +kernel
theorem dX9_shadedCells_10 : decode cX9_shadedCells 10 = .ok (.aload_n 0, 1) := by decide +kernel
theorem dX9_shadedCells_11 : decode cX9_shadedCells 11 = .ok (.getfield 28, 3) := by decide +kernel
theorem dX9_shadedCells_14 : decode cX9_shadedCells 14 = .ok (.getfield 120, 3) := by decide +kernel
theorem dX9_shadedCells_17 : decode cX9_shadedCells 17 = .ok (.if_icmp .ge 24, 3) := by decide +kernel
theorem dX9_shadedCells_20 : decode cX9_shadedCells 20 = .ok (.aload_n 0, 1) := by decide +kernel
theorem dX9_shadedCells_21 : decode cX9_shadedCells 21 = .ok (.getfield 50, 3) := by decide +kernel
theorem dX9_shadedCells_24 : decode cX9_shadedCells 24 = .ok (.iload_n 3, 1) := by decide +kernel
theorem dX9_shadedCells_25 : decode cX9_shadedCells 25 = .ok (.iload_n 1, 1) := by decide +kernel
theorem dX9_shadedCells_26 : decode cX9_shadedCells 26 = .ok (.invokevirtual 159, 3) := by decide +kernel
theorem dX9_shadedCells_29 : decode cX9_shadedCells 29 = .ok (.ifCond .eq 6, 3) := by decide +kernel
theorem dX9_shadedCells_32 : decode cX9_shadedCells 32 = .ok (.iinc 2 1, 3) := by decide +kernel
theorem dX9_shadedCells_35 : decode cX9_shadedCells 35 = .ok (.iinc 3 1, 3) := by decide +kernel
theorem dX9_shadedCells_38 : decode cX9_shadedCells 38 = .ok (.goto (-29), 3) := by decide +kernel
theorem dX9_shadedCells_41 : decode cX9_shadedCells 41 = .ok (.iload_n 2, 1) := by decide +kernel
theorem dX9_shadedCells_42 : decode cX9_shadedCells 42 = .ok (.ireturn, 1) := by decide +kernel
set_option maxRecDepth 100000 in
theorem SX9_shadedCells_0 {g : zG} {o : Bool} {C R : Int} {M : zM} {q : Int → zM → Prop} (W : (zLand M C R) ∧ (sOk M 24) ∧ zT g (z1 o) mX9_shadedCells (zQi (z1 o) q) 9 [(0, zA g 1), (1, zI (wnd M (M 24 4))), (2, zI 0), (3, zI 0)] [] M) : zT g (z1 o) mX9_shadedCells (zQi (z1 o) q) 0 [(0, zA g 1)] [] M := by
  refine zr_aload_n 0 dX9_shadedCells_0 rfl ?_
  obtain ⟨c1, W⟩ := W
  obtain ⟨c2, W⟩ := W
  refine zt_callVi (As := []) (rest := []) dX9_shadedCells_1 kX9_shadedCells_155 rfl rfl rfl rfl (Nat.le_of_ble_eq_true rfl) (c_windNow1 c1 c2) (fun r3 N5 h4 => ?_)
  rw [h4.1, h4.2]
  refine zr_istore_n (l' := [(0, zA g 1), (1, zI (wnd M (M 24 4)))]) dX9_shadedCells_4 (by decide) [1, 0] rfl ?_
  refine zr_iconst dX9_shadedCells_5 ?_
  refine zr_istore_n (l' := [(0, zA g 1), (1, zI (wnd M (M 24 4))), (2, zI 0)]) dX9_shadedCells_6 (by decide) [1, 2, 0] rfl ?_
  refine zr_iconst dX9_shadedCells_7 ?_
  refine zr_istore_n (l' := [(0, zA g 1), (1, zI (wnd M (M 24 4))), (2, zI 0), (3, zI 0)]) dX9_shadedCells_8 (by decide) [1, 2, 3, 0] rfl ?_
  exact W
set_option maxRecDepth 100000 in
theorem SX9_shadedCells_9 {g : zG} {o : Bool} {C R : Int} {M : zM} {q : Int → zM → Prop} {x1 x2 x3 : Int} (W : (-2147483648 ≤ x3 ∧ x3 ≤ 2147483647) ∧ (-2147483648 ≤ (M 14 2) ∧ (M 14 2) ≤ 2147483647) ∧ (((M 14 2) ≤ x3) → q x2 M) ∧ ((¬ ((M 14 2) ≤ x3)) → (zLand M C R) ∧ (0 ≤ x3 ∧ x3 < C * R) ∧ (0 ≤ x1 ∧ x1 ≤ 3) ∧ (Bd (M 25)) ∧ (0 ≤ M 27 1 ∧ M 27 1 ≤ 9) ∧ ((¬ (shd C R (M 25) (M 27 1) x3 x1)) → zT g (z1 o) mX9_shadedCells (zQi (z1 o) q) 9 [(0, zA g 1), (1, zI x1), (2, zI x2), (3, zI (x3 + 1))] [] M) ∧ ((shd C R (M 25) (M 27 1) x3 x1) → zT g (z1 o) mX9_shadedCells (zQi (z1 o) q) 9 [(0, zA g 1), (1, zI x1), (2, zI (x2 + 1)), (3, zI (x3 + 1))] [] M))) : zT g (z1 o) mX9_shadedCells (zQi (z1 o) q) 9 [(0, zA g 1), (1, zI x1), (2, zI x2), (3, zI x3)] [] M := by
  refine zr_iload_n 3 dX9_shadedCells_9 rfl ?_
  refine zr_aload_n 0 dX9_shadedCells_10 rfl ?_
  refine zr_getr (b := 14) dX9_shadedCells_11 fX9_28 rfl rfl rfl (by decide) ?_
  refine zt_geti 2 rfl dX9_shadedCells_14 fX9_120 rfl (by decide) ?_
  obtain ⟨c1, W⟩ := W
  obtain ⟨c2, W⟩ := W
  refine zr_icmp_ge (tgt := 41) dX9_shadedCells_17 (by decide) c1 c2 (fun h => ?_) (fun h => ?_)
  · have W := W.1 h
    refine zr_iload_n 2 dX9_shadedCells_41 rfl ?_
    exact zt_iret dX9_shadedCells_42 rfl W
  · have W := W.2 h
    refine zr_aload_n 0 dX9_shadedCells_20 rfl ?_
    refine zr_getr (b := 32) dX9_shadedCells_21 fX9_50 rfl rfl rfl (by decide) ?_
    refine zr_iload_n 3 dX9_shadedCells_24 rfl ?_
    refine zr_iload_n 1 dX9_shadedCells_25 rfl ?_
    obtain ⟨c3, W⟩ := W
    obtain ⟨c4, W⟩ := W
    obtain ⟨c5, W⟩ := W
    obtain ⟨c6, W⟩ := W
    obtain ⟨c7, W⟩ := W
    refine zt_callVi (As := [zI x3, zI x1]) (rest := []) dX9_shadedCells_26 kX9_shadedCells_159 rfl rfl rfl rfl (Nat.le_of_ble_eq_true rfl) (c_shaded (show zSt 32 24 by unfold zSt; decide) c3 c4 c5 c6 c7) (fun r8 N10 h9 => ?_)
    rw [h9.1, h9.2]
    refine zt_ifeq_b (tgt := 35) dX9_shadedCells_29 (by decide) (fun h => ?_) (fun h => ?_)
    · have W := W.1 h
      refine zr_iinc (q := 3) (l' := [(0, zA g 1), (1, zI x1), (2, zI x2), (3, zI (x3 + 1))]) dX9_shadedCells_35 rfl (by decide) [1, 2, 3, 0] rfl ?_
      refine zr_goto (tgt := 9) dX9_shadedCells_38 (by decide) ?_
      exact W
    · have W := W.2 h
      refine zr_iinc (q := 2) (l' := [(0, zA g 1), (1, zI x1), (2, zI (x2 + 1)), (3, zI x3)]) dX9_shadedCells_32 rfl (by decide) [1, 2, 0, 3] rfl ?_
      refine zr_iinc (q := 3) (l' := [(0, zA g 1), (1, zI x1), (2, zI (x2 + 1)), (3, zI (x3 + 1))]) dX9_shadedCells_35 rfl (by decide) [1, 2, 3, 0] rfl ?_
      refine zr_goto (tgt := 9) dX9_shadedCells_38 (by decide) ?_
      exact W
theorem dX9_greatestDifference_0 : decode cX9_greatestDifference 0 = .ok (.iconst 0, 1) := by decide +kernel
theorem dX9_greatestDifference_1 : decode cX9_greatestDifference 1 = .ok (.istore_n 1, 1) := by decide +kernel
theorem dX9_greatestDifference_2 : decode cX9_greatestDifference 2 = .ok (.iconst 0, 1) := by decide +kernel
theorem dX9_greatestDifference_3 : decode cX9_greatestDifference 3 = .ok (.istore_n 2, 1) := by decide +kernel
theorem dX9_greatestDifference_4 : decode cX9_greatestDifference 4 = .ok (.iload_n 2, 1) := by decide +kernel
theorem dX9_greatestDifference_5 : decode cX9_greatestDifference 5 = .ok (.aload_n 0, 1) := by decide +kernel
theorem dX9_greatestDifference_6 : decode cX9_greatestDifference 6 = .ok (.getfield 28, 3) := by decide +kernel
theorem dX9_greatestDifference_9 : decode cX9_greatestDifference 9 = .ok (.getfield 120, 3) := by decide +kernel
theorem dX9_greatestDifference_12 : decode cX9_greatestDifference 12 = .ok (.if_icmp .ge 19, 3) := by decide +kernel
theorem dX9_greatestDifference_15 : decode cX9_greatestDifference 15 = .ok (.iload_n 1, 1) := by decide +kernel
theorem dX9_greatestDifference_16 : decode cX9_greatestDifference 16 = .ok (.aload_n 0, 1) := by decide +kernel
theorem dX9_greatestDifference_17 : decode cX9_greatestDifference 17 = .ok (.iload_n 2, 1) := by decide +kernel
theorem dX9_greatestDifference_18 : decode cX9_greatestDifference 18 = .ok (.invokevirtual 166, 3) := by decide +kernel
theorem dX9_greatestDifference_21 : decode cX9_greatestDifference 21 = .ok (.invokestatic 183, 3) := by decide +kernel
theorem dX9_greatestDifference_24 : decode cX9_greatestDifference 24 = .ok (.istore_n 1, 1) := by decide +kernel
theorem dX9_greatestDifference_25 : decode cX9_greatestDifference 25 = .ok (.iinc 2 1, 3) := by decide +kernel
theorem dX9_greatestDifference_28 : decode cX9_greatestDifference 28 = .ok (.goto (-24), 3) := by decide +kernel
theorem dX9_greatestDifference_31 : decode cX9_greatestDifference 31 = .ok (.iload_n 1, 1) := by decide +kernel
theorem dX9_greatestDifference_32 : decode cX9_greatestDifference 32 = .ok (.ireturn, 1) := by decide +kernel
set_option maxRecDepth 100000 in
theorem SX9_greatestDifference_0 {g : zG} {o : Bool} {M : zM} {q : Int → zM → Prop} (W : zT g (z1 o) mX9_greatestDifference (zQi (z1 o) q) 4 [(0, zA g 1), (1, zI 0), (2, zI 0)] [] M) : zT g (z1 o) mX9_greatestDifference (zQi (z1 o) q) 0 [(0, zA g 1)] [] M := by
  refine zr_iconst dX9_greatestDifference_0 ?_
  refine zr_istore_n (l' := [(0, zA g 1), (1, zI 0)]) dX9_greatestDifference_1 (by decide) [1, 0] rfl ?_
  refine zr_iconst dX9_greatestDifference_2 ?_
  refine zr_istore_n (l' := [(0, zA g 1), (1, zI 0), (2, zI 0)]) dX9_greatestDifference_3 (by decide) [1, 2, 0] rfl ?_
  exact W
set_option maxRecDepth 100000 in
theorem SX9_greatestDifference_4 {g : zG} {o : Bool} {C R : Int} {M : zM} {q : Int → zM → Prop} {x1 x2 : Int} (W : (-2147483648 ≤ x2 ∧ x2 ≤ 2147483647) ∧ (-2147483648 ≤ (M 14 2) ∧ (M 14 2) ≤ 2147483647) ∧ (((M 14 2) ≤ x2) → q x1 M) ∧ ((¬ ((M 14 2) ≤ x2)) → (zLand M C R) ∧ (sOk M 24) ∧ (0 ≤ x2 ∧ x2 < C * R) ∧ (-2147483648 ≤ x1 ∧ x1 ≤ 2147483647) ∧ (-2147483648 ≤ (stw C R (M 25) x2 4) ∧ (stw C R (M 25) x2 4) ≤ 2147483647) ∧ zT g (z1 o) mX9_greatestDifference (zQi (z1 o) q) 4 [(0, zA g 1), (1, zI (max x1 (stw C R (M 25) x2 4))), (2, zI (x2 + 1))] [] M)) : zT g (z1 o) mX9_greatestDifference (zQi (z1 o) q) 4 [(0, zA g 1), (1, zI x1), (2, zI x2)] [] M := by
  refine zr_iload_n 2 dX9_greatestDifference_4 rfl ?_
  refine zr_aload_n 0 dX9_greatestDifference_5 rfl ?_
  refine zr_getr (b := 14) dX9_greatestDifference_6 fX9_28 rfl rfl rfl (by decide) ?_
  refine zt_geti 2 rfl dX9_greatestDifference_9 fX9_120 rfl (by decide) ?_
  obtain ⟨c1, W⟩ := W
  obtain ⟨c2, W⟩ := W
  refine zr_icmp_ge (tgt := 31) dX9_greatestDifference_12 (by decide) c1 c2 (fun h => ?_) (fun h => ?_)
  · have W := W.1 h
    refine zr_iload_n 1 dX9_greatestDifference_31 rfl ?_
    exact zt_iret dX9_greatestDifference_32 rfl W
  · have W := W.2 h
    refine zr_iload_n 1 dX9_greatestDifference_15 rfl ?_
    refine zr_aload_n 0 dX9_greatestDifference_16 rfl ?_
    refine zr_iload_n 2 dX9_greatestDifference_17 rfl ?_
    obtain ⟨c3, W⟩ := W
    obtain ⟨c4, W⟩ := W
    obtain ⟨c5, W⟩ := W
    refine zt_callVi (As := [zI x2]) (rest := [zI x1]) dX9_greatestDifference_18 kX9_greatestDifference_166 rfl rfl rfl rfl (Nat.le_of_ble_eq_true rfl) (c_steepness c3 c4 c5) (fun r6 N8 h7 => ?_)
    rw [h7.1, h7.2]
    obtain ⟨c9, W⟩ := W
    obtain ⟨c10, W⟩ := W
    refine zr_max dX9_greatestDifference_21 kX9_greatestDifference_183 c9 c10 (Nat.le_of_ble_eq_true rfl) ⟨Nat.le_refl _, Nat.le_refl _⟩ ?_
    refine zr_istore_n (l' := [(0, zA g 1), (1, zI (max x1 (stw C R (M 25) x2 4))), (2, zI x2)]) dX9_greatestDifference_24 (by decide) [1, 0, 2] rfl ?_
    refine zr_iinc (q := 2) (l' := [(0, zA g 1), (1, zI (max x1 (stw C R (M 25) x2 4))), (2, zI (x2 + 1))]) dX9_greatestDifference_25 rfl (by decide) [1, 2, 0] rfl ?_
    refine zr_goto (tgt := 4) dX9_greatestDifference_28 (by decide) ?_
    exact W
theorem dX9_allDifferences_0 : decode cX9_allDifferences 0 = .ok (.iconst 0, 1) := by decide +kernel
theorem dX9_allDifferences_1 : decode cX9_allDifferences 1 = .ok (.istore_n 1, 1) := by decide +kernel
theorem dX9_allDifferences_2 : decode cX9_allDifferences 2 = .ok (.iconst 0, 1) := by decide +kernel
theorem dX9_allDifferences_3 : decode cX9_allDifferences 3 = .ok (.istore_n 2, 1) := by decide +kernel
theorem dX9_allDifferences_4 : decode cX9_allDifferences 4 = .ok (.iload_n 2, 1) := by decide +kernel
theorem dX9_allDifferences_5 : decode cX9_allDifferences 5 = .ok (.aload_n 0, 1) := by decide +kernel
theorem dX9_allDifferences_6 : decode cX9_allDifferences 6 = .ok (.getfield 28, 3) := by decide +kernel
theorem dX9_allDifferences_9 : decode cX9_allDifferences 9 = .ok (.getfield 120, 3) := by decide +kernel
theorem dX9_allDifferences_12 : decode cX9_allDifferences 12 = .ok (.if_icmp .ge 69, 3) := by decide +kernel
theorem dX9_allDifferences_15 : decode cX9_allDifferences 15 = .ok (.aload_n 0, 1) := by decide +kernel
theorem dX9_allDifferences_16 : decode cX9_allDifferences 16 = .ok (.getfield 39, 3) := by decide +kernel
theorem dX9_allDifferences_19 : decode cX9_allDifferences 19 = .ok (.getfield 152, 3) := by decide +kernel
theorem dX9_allDifferences_22 : decode cX9_allDifferences 22 = .ok (.iload_n 2, 1) := by decide +kernel
theorem dX9_allDifferences_23 : decode cX9_allDifferences 23 = .ok (.iaload, 1) := by decide +kernel
theorem dX9_allDifferences_24 : decode cX9_allDifferences 24 = .ok (.istore_n 3, 1) := by decide +kernel
theorem dX9_allDifferences_25 : decode cX9_allDifferences 25 = .ok (.iload_n 1, 1) := by decide +kernel
theorem dX9_allDifferences_26 : decode cX9_allDifferences 26 = .ok (.iload_n 3, 1) := by decide +kernel
theorem dX9_allDifferences_27 : decode cX9_allDifferences 27 = .ok (.aload_n 0, 1) := by decide +kernel
theorem dX9_allDifferences_28 : decode cX9_allDifferences 28 = .ok (.getfield 39, 3) := by decide +kernel
theorem dX9_allDifferences_31 : decode cX9_allDifferences 31 = .ok (.getfield 152, 3) := by decide +kernel
theorem dX9_allDifferences_34 : decode cX9_allDifferences 34 = .ok (.aload_n 0, 1) := by decide +kernel
theorem dX9_allDifferences_35 : decode cX9_allDifferences 35 = .ok (.getfield 28, 3) := by decide +kernel
theorem dX9_allDifferences_38 : decode cX9_allDifferences 38 = .ok (.iload_n 2, 1) := by decide +kernel
theorem dX9_allDifferences_39 : decode cX9_allDifferences 39 = .ok (.iconst 0, 1) := by decide +kernel
theorem dX9_allDifferences_40 : decode cX9_allDifferences 40 = .ok (.invokevirtual 173, 3) := by decide +kernel
theorem dX9_allDifferences_43 : decode cX9_allDifferences 43 = .ok (.iaload, 1) := by decide +kernel
theorem dX9_allDifferences_44 : decode cX9_allDifferences 44 = .ok (.isub, 1) := by decide +kernel
theorem dX9_allDifferences_45 : decode cX9_allDifferences 45 = .ok (.invokestatic 240, 3) := by decide +kernel
theorem dX9_allDifferences_48 : decode cX9_allDifferences 48 = .ok (.iadd, 1) := by decide +kernel
theorem dX9_allDifferences_49 : decode cX9_allDifferences 49 = .ok (.istore_n 1, 1) := by decide +kernel
theorem dX9_allDifferences_50 : decode cX9_allDifferences 50 = .ok (.iload_n 1, 1) := by decide +kernel
theorem dX9_allDifferences_51 : decode cX9_allDifferences 51 = .ok (.iload_n 3, 1) := by decide +kernel
theorem dX9_allDifferences_52 : decode cX9_allDifferences 52 = .ok (.aload_n 0, 1) := by decide +kernel
theorem dX9_allDifferences_53 : decode cX9_allDifferences 53 = .ok (.getfield 39, 3) := by decide +kernel
theorem dX9_allDifferences_56 : decode cX9_allDifferences 56 = .ok (.getfield 152, 3) := by decide +kernel
theorem dX9_allDifferences_59 : decode cX9_allDifferences 59 = .ok (.aload_n 0, 1) := by decide +kernel
theorem dX9_allDifferences_60 : decode cX9_allDifferences 60 = .ok (.getfield 28, 3) := by decide +kernel
theorem dX9_allDifferences_63 : decode cX9_allDifferences 63 = .ok (.iload_n 2, 1) := by decide +kernel
theorem dX9_allDifferences_64 : decode cX9_allDifferences 64 = .ok (.iconst 1, 1) := by decide +kernel
theorem dX9_allDifferences_65 : decode cX9_allDifferences 65 = .ok (.invokevirtual 173, 3) := by decide +kernel
theorem dX9_allDifferences_68 : decode cX9_allDifferences 68 = .ok (.iaload, 1) := by decide +kernel
theorem dX9_allDifferences_69 : decode cX9_allDifferences 69 = .ok (.isub, 1) := by decide +kernel
theorem dX9_allDifferences_70 : decode cX9_allDifferences 70 = .ok (.invokestatic 240, 3) := by decide +kernel
theorem dX9_allDifferences_73 : decode cX9_allDifferences 73 = .ok (.iadd, 1) := by decide +kernel
theorem dX9_allDifferences_74 : decode cX9_allDifferences 74 = .ok (.istore_n 1, 1) := by decide +kernel
theorem dX9_allDifferences_75 : decode cX9_allDifferences 75 = .ok (.iinc 2 1, 3) := by decide +kernel
theorem dX9_allDifferences_78 : decode cX9_allDifferences 78 = .ok (.goto (-74), 3) := by decide +kernel
theorem dX9_allDifferences_81 : decode cX9_allDifferences 81 = .ok (.iload_n 1, 1) := by decide +kernel
theorem dX9_allDifferences_82 : decode cX9_allDifferences 82 = .ok (.ireturn, 1) := by decide +kernel
set_option maxRecDepth 100000 in
theorem SX9_allDifferences_0 {g : zG} {o : Bool} {M : zM} {q : Int → zM → Prop} (W : zT g (z1 o) mX9_allDifferences (zQi (z1 o) q) 4 [(0, zA g 1), (1, zI 0), (2, zI 0)] [] M) : zT g (z1 o) mX9_allDifferences (zQi (z1 o) q) 0 [(0, zA g 1)] [] M := by
  refine zr_iconst dX9_allDifferences_0 ?_
  refine zr_istore_n (l' := [(0, zA g 1), (1, zI 0)]) dX9_allDifferences_1 (by decide) [1, 0] rfl ?_
  refine zr_iconst dX9_allDifferences_2 ?_
  refine zr_istore_n (l' := [(0, zA g 1), (1, zI 0), (2, zI 0)]) dX9_allDifferences_3 (by decide) [1, 2, 0] rfl ?_
  exact W
set_option maxRecDepth 100000 in
theorem SX9_allDifferences_4 {g : zG} {o : Bool} {C R : Int} {M : zM} {q : Int → zM → Prop} {x1 x2 : Int} (W : (-2147483648 ≤ x2 ∧ x2 ≤ 2147483647) ∧ (-2147483648 ≤ (M 14 2) ∧ (M 14 2) ≤ 2147483647) ∧ (((M 14 2) ≤ x2) → q x1 M) ∧ ((¬ ((M 14 2) ≤ x2)) → (0 ≤ x2 ∧ x2 < 96) ∧ (zLand M C R) ∧ (0 ≤ x2 ∧ x2 < C * R) ∧ (0 ≤ (alg C R x2 0 1) ∧ (alg C R x2 0 1) < 96) ∧ (-2147483648 ≤ ((M 25 x2) - (M 25 (alg C R x2 0 1))) ∧ ((M 25 x2) - (M 25 (alg C R x2 0 1))) ≤ 2147483647) ∧ (0 ≤ (alg C R x2 1 1) ∧ (alg C R x2 1 1) < 96) ∧ (-2147483648 ≤ ((M 25 x2) - (M 25 (alg C R x2 1 1))) ∧ ((M 25 x2) - (M 25 (alg C R x2 1 1))) ≤ 2147483647) ∧ zT g (z1 o) mX9_allDifferences (zQi (z1 o) q) 4 [(0, zA g 1), (1, zI ((x1 + (if 0 ≤ ((M 25 x2) - (M 25 (alg C R x2 0 1))) then ((M 25 x2) - (M 25 (alg C R x2 0 1))) else 0 - ((M 25 x2) - (M 25 (alg C R x2 0 1))))) + (if 0 ≤ ((M 25 x2) - (M 25 (alg C R x2 1 1))) then ((M 25 x2) - (M 25 (alg C R x2 1 1))) else 0 - ((M 25 x2) - (M 25 (alg C R x2 1 1)))))), (2, zI (x2 + 1))] [] M)) : zT g (z1 o) mX9_allDifferences (zQi (z1 o) q) 4 [(0, zA g 1), (1, zI x1), (2, zI x2)] [] M := by
  refine zr_iload_n 2 dX9_allDifferences_4 rfl ?_
  refine zr_aload_n 0 dX9_allDifferences_5 rfl ?_
  refine zr_getr (b := 14) dX9_allDifferences_6 fX9_28 rfl rfl rfl (by decide) ?_
  refine zt_geti 2 rfl dX9_allDifferences_9 fX9_120 rfl (by decide) ?_
  obtain ⟨c1, W⟩ := W
  obtain ⟨c2, W⟩ := W
  refine zr_icmp_ge (tgt := 81) dX9_allDifferences_12 (by decide) c1 c2 (fun h => ?_) (fun h => ?_)
  · have W := W.1 h
    refine zr_iload_n 1 dX9_allDifferences_81 rfl ?_
    exact zt_iret dX9_allDifferences_82 rfl W
  · have W := W.2 h
    refine zr_aload_n 0 dX9_allDifferences_15 rfl ?_
    refine zr_getr (b := 24) dX9_allDifferences_16 fX9_39 rfl rfl rfl (by decide) ?_
    refine zr_getr (b := 25) dX9_allDifferences_19 fX9_152 rfl rfl rfl (by decide) ?_
    refine zr_iload_n 2 dX9_allDifferences_22 rfl ?_
    obtain ⟨c3, W⟩ := W
    refine zr_iald dX9_allDifferences_23 rfl (by decide) c3 ?_
    refine zr_istore_n (l' := [(0, zA g 1), (1, zI x1), (2, zI x2), (3, zI (M 25 x2))]) dX9_allDifferences_24 (by decide) [1, 2, 3, 0] rfl ?_
    refine zr_iload_n 1 dX9_allDifferences_25 rfl ?_
    refine zr_iload_n 3 dX9_allDifferences_26 rfl ?_
    refine zr_aload_n 0 dX9_allDifferences_27 rfl ?_
    refine zr_getr (b := 24) dX9_allDifferences_28 fX9_39 rfl rfl rfl (by decide) ?_
    refine zr_getr (b := 25) dX9_allDifferences_31 fX9_152 rfl rfl rfl (by decide) ?_
    refine zr_aload_n 0 dX9_allDifferences_34 rfl ?_
    refine zr_getr (b := 14) dX9_allDifferences_35 fX9_28 rfl rfl rfl (by decide) ?_
    refine zr_iload_n 2 dX9_allDifferences_38 rfl ?_
    refine zr_iconst dX9_allDifferences_39 ?_
    obtain ⟨c4, W⟩ := W
    obtain ⟨c5, W⟩ := W
    refine zt_callVi (As := [zI x2, zI 0]) (rest := [zA g 25, zI (M 25 x2), zI x1]) dX9_allDifferences_40 kX9_allDifferences_173 rfl rfl rfl rfl (Nat.le_of_ble_eq_true rfl) (c_nbr c4 c5 ⟨by decide, by decide⟩) (fun r6 N8 h7 => ?_)
    rw [h7.1, h7.2]
    obtain ⟨c9, W⟩ := W
    refine zr_iald dX9_allDifferences_43 rfl (by decide) c9 ?_
    refine zr_isub dX9_allDifferences_44 ?_
    obtain ⟨c10, W⟩ := W
    refine zr_abs dX9_allDifferences_45 kX9_allDifferences_240 c10 (Nat.le_of_ble_eq_true rfl) ⟨Nat.le_refl _, Nat.le_refl _⟩ ?_
    refine zr_iadd dX9_allDifferences_48 ?_
    refine zr_istore_n (l' := [(0, zA g 1), (1, zI (x1 + (if 0 ≤ ((M 25 x2) - (M 25 (alg C R x2 0 1))) then ((M 25 x2) - (M 25 (alg C R x2 0 1))) else 0 - ((M 25 x2) - (M 25 (alg C R x2 0 1)))))), (2, zI x2), (3, zI (M 25 x2))]) dX9_allDifferences_49 (by decide) [1, 0, 2, 3] rfl ?_
    refine zr_iload_n 1 dX9_allDifferences_50 rfl ?_
    refine zr_iload_n 3 dX9_allDifferences_51 rfl ?_
    refine zr_aload_n 0 dX9_allDifferences_52 rfl ?_
    refine zr_getr (b := 24) dX9_allDifferences_53 fX9_39 rfl rfl rfl (by decide) ?_
    refine zr_getr (b := 25) dX9_allDifferences_56 fX9_152 rfl rfl rfl (by decide) ?_
    refine zr_aload_n 0 dX9_allDifferences_59 rfl ?_
    refine zr_getr (b := 14) dX9_allDifferences_60 fX9_28 rfl rfl rfl (by decide) ?_
    refine zr_iload_n 2 dX9_allDifferences_63 rfl ?_
    refine zr_iconst dX9_allDifferences_64 ?_
    refine zt_callVi (As := [zI x2, zI 1]) (rest := [zA g 25, zI (M 25 x2), zI (x1 + (if 0 ≤ ((M 25 x2) - (M 25 (alg C R x2 0 1))) then ((M 25 x2) - (M 25 (alg C R x2 0 1))) else 0 - ((M 25 x2) - (M 25 (alg C R x2 0 1)))))]) dX9_allDifferences_65 kX9_allDifferences_173 rfl rfl rfl rfl (Nat.le_of_ble_eq_true rfl) (c_nbr c4 c5 ⟨by decide, by decide⟩) (fun r11 N13 h12 => ?_)
    rw [h12.1, h12.2]
    obtain ⟨c14, W⟩ := W
    refine zr_iald dX9_allDifferences_68 rfl (by decide) c14 ?_
    refine zr_isub dX9_allDifferences_69 ?_
    obtain ⟨c15, W⟩ := W
    refine zr_abs dX9_allDifferences_70 kX9_allDifferences_240 c15 (Nat.le_of_ble_eq_true rfl) ⟨Nat.le_refl _, Nat.le_refl _⟩ ?_
    refine zr_iadd dX9_allDifferences_73 ?_
    refine zr_istore_n (l' := [(0, zA g 1), (1, zI ((x1 + (if 0 ≤ ((M 25 x2) - (M 25 (alg C R x2 0 1))) then ((M 25 x2) - (M 25 (alg C R x2 0 1))) else 0 - ((M 25 x2) - (M 25 (alg C R x2 0 1))))) + (if 0 ≤ ((M 25 x2) - (M 25 (alg C R x2 1 1))) then ((M 25 x2) - (M 25 (alg C R x2 1 1))) else 0 - ((M 25 x2) - (M 25 (alg C R x2 1 1)))))), (2, zI x2)]) dX9_allDifferences_74 (by decide) [1, 0, 2] rfl ?_
    refine zr_iinc (q := 2) (l' := [(0, zA g 1), (1, zI ((x1 + (if 0 ≤ ((M 25 x2) - (M 25 (alg C R x2 0 1))) then ((M 25 x2) - (M 25 (alg C R x2 0 1))) else 0 - ((M 25 x2) - (M 25 (alg C R x2 0 1))))) + (if 0 ≤ ((M 25 x2) - (M 25 (alg C R x2 1 1))) then ((M 25 x2) - (M 25 (alg C R x2 1 1))) else 0 - ((M 25 x2) - (M 25 (alg C R x2 1 1)))))), (2, zI (x2 + 1))]) dX9_allDifferences_75 rfl (by decide) [1, 2, 0] rfl ?_
    refine zr_goto (tgt := 4) dX9_allDifferences_78 (by decide) ?_
    exact W
theorem dX9_yieldingCells_0 : decode cX9_yieldingCells 0 = .ok (.aload_n 0, 1) := by decide +kernel
theorem dX9_yieldingCells_1 : decode cX9_yieldingCells 1 = .ok (.invokevirtual 155, 3) := by decide +kernel
theorem dX9_yieldingCells_4 : decode cX9_yieldingCells 4 = .ok (.istore_n 1, 1) := by decide +kernel
theorem dX9_yieldingCells_5 : decode cX9_yieldingCells 5 = .ok (.iconst 0, 1) := by decide +kernel
theorem dX9_yieldingCells_6 : decode cX9_yieldingCells 6 = .ok (.istore_n 2, 1) := by decide +kernel
theorem dX9_yieldingCells_7 : decode cX9_yieldingCells 7 = .ok (.iconst 0, 1) := by decide +kernel
theorem dX9_yieldingCells_8 : decode cX9_yieldingCells 8 = .ok (.istore_n 3, 1) := by decide +kernel
theorem dX9_yieldingCells_9 : decode cX9_yieldingCells 9 = .ok (.iload_n 3, 1) := by decide +kernel
theorem dX9_yieldingCells_10 : decode cX9_yieldingCells 10 = .ok (.aload_n 0, 1) := by decide +kernel
theorem dX9_yieldingCells_11 : decode cX9_yieldingCells 11 = .ok (.getfield 28, 3) := by decide +kernel
theorem dX9_yieldingCells_14 : decode cX9_yieldingCells 14 = .ok (.getfield 120, 3) := by decide +kernel
theorem dX9_yieldingCells_17 : decode cX9_yieldingCells 17 = .ok (.if_icmp .ge 24, 3) := by decide +kernel
theorem dX9_yieldingCells_20 : decode cX9_yieldingCells 20 = .ok (.aload_n 0, 1) := by decide +kernel
theorem dX9_yieldingCells_21 : decode cX9_yieldingCells 21 = .ok (.getfield 50, 3) := by decide +kernel
theorem dX9_yieldingCells_24 : decode cX9_yieldingCells 24 = .ok (.iload_n 3, 1) := by decide +kernel
theorem dX9_yieldingCells_25 : decode cX9_yieldingCells 25 = .ok (.iload_n 1, 1) := by decide +kernel
theorem dX9_yieldingCells_26 : decode cX9_yieldingCells 26 = .ok (.invokevirtual 243, 3) := by decide +kernel
theorem dX9_yieldingCells_29 : decode cX9_yieldingCells 29 = .ok (.ifCond .eq 6, 3) := by decide +kernel
theorem dX9_yieldingCells_32 : decode cX9_yieldingCells 32 = .ok (.iinc 2 1, 3) := by decide +kernel
theorem dX9_yieldingCells_35 : decode cX9_yieldingCells 35 = .ok (.iinc 3 1, 3) := by decide +kernel
theorem dX9_yieldingCells_38 : decode cX9_yieldingCells 38 = .ok (.goto (-29), 3) := by decide +kernel
theorem dX9_yieldingCells_41 : decode cX9_yieldingCells 41 = .ok (.iload_n 2, 1) := by decide +kernel
theorem dX9_yieldingCells_42 : decode cX9_yieldingCells 42 = .ok (.ireturn, 1) := by decide +kernel
set_option maxRecDepth 100000 in
theorem SX9_yieldingCells_0 {g : zG} {o : Bool} {C R : Int} {M : zM} {q : Int → zM → Prop} (W : (zLand M C R) ∧ (sOk M 24) ∧ zT g (z1 o) mX9_yieldingCells (zQi (z1 o) q) 9 [(0, zA g 1), (1, zI (wnd M (M 24 4))), (2, zI 0), (3, zI 0)] [] M) : zT g (z1 o) mX9_yieldingCells (zQi (z1 o) q) 0 [(0, zA g 1)] [] M := by
  refine zr_aload_n 0 dX9_yieldingCells_0 rfl ?_
  obtain ⟨c1, W⟩ := W
  obtain ⟨c2, W⟩ := W
  refine zt_callVi (As := []) (rest := []) dX9_yieldingCells_1 kX9_yieldingCells_155 rfl rfl rfl rfl (Nat.le_of_ble_eq_true rfl) (c_windNow1 c1 c2) (fun r3 N5 h4 => ?_)
  rw [h4.1, h4.2]
  refine zr_istore_n (l' := [(0, zA g 1), (1, zI (wnd M (M 24 4)))]) dX9_yieldingCells_4 (by decide) [1, 0] rfl ?_
  refine zr_iconst dX9_yieldingCells_5 ?_
  refine zr_istore_n (l' := [(0, zA g 1), (1, zI (wnd M (M 24 4))), (2, zI 0)]) dX9_yieldingCells_6 (by decide) [1, 2, 0] rfl ?_
  refine zr_iconst dX9_yieldingCells_7 ?_
  refine zr_istore_n (l' := [(0, zA g 1), (1, zI (wnd M (M 24 4))), (2, zI 0), (3, zI 0)]) dX9_yieldingCells_8 (by decide) [1, 2, 3, 0] rfl ?_
  exact W
set_option maxRecDepth 100000 in
theorem SX9_yieldingCells_9 {g : zG} {o : Bool} {C R : Int} {M : zM} {q : Int → zM → Prop} {x1 x2 x3 : Int} (W : (-2147483648 ≤ x3 ∧ x3 ≤ 2147483647) ∧ (-2147483648 ≤ (M 14 2) ∧ (M 14 2) ≤ 2147483647) ∧ (((M 14 2) ≤ x3) → q x2 M) ∧ ((¬ ((M 14 2) ≤ x3)) → (zLand M C R) ∧ (0 ≤ x3 ∧ x3 < C * R) ∧ (0 ≤ x1 ∧ x1 ≤ 3) ∧ (Bd (M 25)) ∧ (0 ≤ M 27 1 ∧ M 27 1 ≤ 9) ∧ (0 ≤ M 26 x3 ∧ M 26 x3 ≤ 1) ∧ ((¬ (yld C R (M 25) (M 26) (M 27 1) x3 x1)) → zT g (z1 o) mX9_yieldingCells (zQi (z1 o) q) 9 [(0, zA g 1), (1, zI x1), (2, zI x2), (3, zI (x3 + 1))] [] M) ∧ ((yld C R (M 25) (M 26) (M 27 1) x3 x1) → zT g (z1 o) mX9_yieldingCells (zQi (z1 o) q) 9 [(0, zA g 1), (1, zI x1), (2, zI (x2 + 1)), (3, zI (x3 + 1))] [] M))) : zT g (z1 o) mX9_yieldingCells (zQi (z1 o) q) 9 [(0, zA g 1), (1, zI x1), (2, zI x2), (3, zI x3)] [] M := by
  refine zr_iload_n 3 dX9_yieldingCells_9 rfl ?_
  refine zr_aload_n 0 dX9_yieldingCells_10 rfl ?_
  refine zr_getr (b := 14) dX9_yieldingCells_11 fX9_28 rfl rfl rfl (by decide) ?_
  refine zt_geti 2 rfl dX9_yieldingCells_14 fX9_120 rfl (by decide) ?_
  obtain ⟨c1, W⟩ := W
  obtain ⟨c2, W⟩ := W
  refine zr_icmp_ge (tgt := 41) dX9_yieldingCells_17 (by decide) c1 c2 (fun h => ?_) (fun h => ?_)
  · have W := W.1 h
    refine zr_iload_n 2 dX9_yieldingCells_41 rfl ?_
    exact zt_iret dX9_yieldingCells_42 rfl W
  · have W := W.2 h
    refine zr_aload_n 0 dX9_yieldingCells_20 rfl ?_
    refine zr_getr (b := 32) dX9_yieldingCells_21 fX9_50 rfl rfl rfl (by decide) ?_
    refine zr_iload_n 3 dX9_yieldingCells_24 rfl ?_
    refine zr_iload_n 1 dX9_yieldingCells_25 rfl ?_
    obtain ⟨c3, W⟩ := W
    obtain ⟨c4, W⟩ := W
    obtain ⟨c5, W⟩ := W
    obtain ⟨c6, W⟩ := W
    obtain ⟨c7, W⟩ := W
    obtain ⟨c8, W⟩ := W
    refine zt_callVi (As := [zI x3, zI x1]) (rest := []) dX9_yieldingCells_26 kX9_yieldingCells_243 rfl rfl rfl rfl (Nat.le_of_ble_eq_true rfl) (c_yields (show zSt 32 24 by unfold zSt; decide) c3 c4 c5 c6 c7 c8) (fun r9 N11 h10 => ?_)
    rw [h10.1, h10.2]
    refine zt_ifeq_b (tgt := 35) dX9_yieldingCells_29 (by decide) (fun h => ?_) (fun h => ?_)
    · have W := W.1 h
      refine zr_iinc (q := 3) (l' := [(0, zA g 1), (1, zI x1), (2, zI x2), (3, zI (x3 + 1))]) dX9_yieldingCells_35 rfl (by decide) [1, 2, 3, 0] rfl ?_
      refine zr_goto (tgt := 9) dX9_yieldingCells_38 (by decide) ?_
      exact W
    · have W := W.2 h
      refine zr_iinc (q := 2) (l' := [(0, zA g 1), (1, zI x1), (2, zI (x2 + 1)), (3, zI x3)]) dX9_yieldingCells_32 rfl (by decide) [1, 2, 0, 3] rfl ?_
      refine zr_iinc (q := 3) (l' := [(0, zA g 1), (1, zI x1), (2, zI (x2 + 1)), (3, zI (x3 + 1))]) dX9_yieldingCells_35 rfl (by decide) [1, 2, 3, 0] rfl ?_
      refine zr_goto (tgt := 9) dX9_yieldingCells_38 (by decide) ?_
      exact W
section QB
variable {g : zG} {o : Bool} {M : zM} {C R c x : Int} {s : Nat} {H H' : Int → Int}
theorem cnt_skip {P : Int → Prop} {k : Nat} (h : ¬ P k) : cnt P (k + 1) = cnt P k := by show _ + zb (P k) = _; rw [zb_f h]; omega
theorem cnt_take {P : Int → Prop} {k : Nat} (h : P k) : cnt P (k + 1) = cnt P k + 1 := by show _ + zb (P k) = _; rw [zb_t h]
theorem c_shadedCells (hL : zLand M C R) (hO : sOk M 24) : zKi g (z1 o) mX9_shadedCells [zA g 1] M (fun r M' => r = cnt (fun c => shd C R (M 25) (M 27 1) c (wnd M (M 24 4))) (C * R).toNat ∧ M' = M) := by
  have hn := geo_n hL.1
  have e : M 14 2 = C * R := hL.2.2.2.1
  have hO' := hO
  obtain ⟨o1, o2, o3, o4, o5, o6, o7, o8⟩ := hO
  have w1 := wnd_in (t := M 24 4) hL o8.1
  obtain ⟨n, hnn⟩ := znn (show 0 ≤ C * R by omega)
  rw [show (C * R).toNat = n by omega]
  refine zki_of rfl (Nat.le_of_ble_eq_true rfl) (SX9_shadedCells_0 ⟨hL, hO', ?_⟩)
  refine zup (fun k => zT g (z1 o) mX9_shadedCells (zQi (z1 o) (fun r M' => r = cnt (fun c => shd C R (M 25) (M 27 1) c (wnd M (M 24 4))) n ∧ M' = M)) 9 [(0, zA g 1), (1, zI (wnd M (M 24 4))), (2, zI (cnt (fun c => shd C R (M 25) (M 27 1) c (wnd M (M 24 4))) k)), (3, zI k)] [] M) n (SX9_shadedCells_9 (C := C) (R := R) ⟨by omega, by omega, fun _ => ⟨rfl, rfl⟩, fun h => by omega⟩) (fun k hk ih => ?_)
  refine SX9_shadedCells_9 (C := C) (R := R) ⟨by omega, by omega, fun h => by omega, fun h => ⟨hL, by omega, w1, o1.le (by decide), by have : (1 : Int) ≤ M 27 1 ∧ M 27 1 ≤ 9 := o4; omega, fun h5 => ?_, fun h5 => ?_⟩⟩
  · rw [cnt_skip h5] at ih; exact ih
  · rw [cnt_take h5] at ih; exact ih
theorem c_yieldingCells (hL : zLand M C R) (hO : sOk M 24) : zKi g (z1 o) mX9_yieldingCells [zA g 1] M (fun r M' => r = cnt (fun c => yld C R (M 25) (M 26) (M 27 1) c (wnd M (M 24 4))) (C * R).toNat ∧ M' = M) := by
  have hn := geo_n hL.1
  have e : M 14 2 = C * R := hL.2.2.2.1
  have hO' := hO
  obtain ⟨o1, o2, o3, o4, o5, o6, o7, o8⟩ := hO
  have w1 := wnd_in (t := M 24 4) hL o8.1
  obtain ⟨n, hnn⟩ := znn (show 0 ≤ C * R by omega)
  rw [show (C * R).toNat = n by omega]
  refine zki_of rfl (Nat.le_of_ble_eq_true rfl) (SX9_yieldingCells_0 ⟨hL, hO', ?_⟩)
  refine zup (fun k => zT g (z1 o) mX9_yieldingCells (zQi (z1 o) (fun r M' => r = cnt (fun c => yld C R (M 25) (M 26) (M 27 1) c (wnd M (M 24 4))) n ∧ M' = M)) 9 [(0, zA g 1), (1, zI (wnd M (M 24 4))), (2, zI (cnt (fun c => yld C R (M 25) (M 26) (M 27 1) c (wnd M (M 24 4))) k)), (3, zI k)] [] M) n (SX9_yieldingCells_9 (C := C) (R := R) ⟨by omega, by omega, fun _ => ⟨rfl, rfl⟩, fun h => by omega⟩) (fun k hk ih => ?_)
  refine SX9_yieldingCells_9 (C := C) (R := R) ⟨by omega, by omega, fun h => by omega, fun h => ⟨hL, by omega, w1, o1.le (by decide), by have : (1 : Int) ≤ M 27 1 ∧ M 27 1 ≤ 9 := o4; omega, o2 k (by omega) (by omega), fun h5 => ?_, fun h5 => ?_⟩⟩
  · rw [cnt_skip h5] at ih; exact ih
  · rw [cnt_take h5] at ih; exact ih
theorem c_greatest (hL : zLand M C R) (hO : sOk M 24) : zKi g (z1 o) mX9_greatestDifference [zA g 1] M (fun r M' => r = mxt (fun c => stw C R (M 25) c 4) (C * R).toNat ∧ M' = M) := by
  have hn := geo_n hL.1
  have e : M 14 2 = C * R := hL.2.2.2.1
  have hB : BdB 1000000 (M 25) := hO.1
  obtain ⟨n, hnn⟩ := znn (show 0 ≤ C * R by omega)
  rw [show (C * R).toNat = n by omega]
  refine zki_of rfl (Nat.le_of_ble_eq_true rfl) (SX9_greatestDifference_0 ?_)
  refine zup (fun k => zT g (z1 o) mX9_greatestDifference (zQi (z1 o) (fun r M' => r = mxt (fun c => stw C R (M 25) c 4) n ∧ M' = M)) 4 [(0, zA g 1), (1, zI (mxt (fun c => stw C R (M 25) c 4) k)), (2, zI k)] [] M) n (SX9_greatestDifference_4 (C := C) (R := R) ⟨by omega, by omega, fun _ => ⟨rfl, rfl⟩, fun h => by omega⟩) (fun k hk ih => ?_)
  have b := stw_in hL.1 (c := (k : Int)) (by omega) hB 4 (by decide)
  have b' := mxt_in (f := fun c => stw C R (M 25) c 4) (B := 1000000) (n := k) (by decide) (fun i h0 h1 => (stw_in hL.1 (c := i) (by omega) hB 4 (by decide)).2)
  exact SX9_greatestDifference_4 (C := C) (R := R) ⟨by omega, by omega, fun h => by omega, fun h => ⟨hL, hO, by omega, by omega, by omega, ih⟩⟩
theorem c_allDiff (hL : zLand M C R) (hO : sOk M 24) : zKi g (z1 o) mX9_allDifferences [zA g 1] M (fun r M' => r = smt (fun c => adf (M 25 c) (M 25 (alg C R c 0 1)) + adf (M 25 c) (M 25 (alg C R c 1 1))) (C * R).toNat ∧ M' = M) := by
  have hn := geo_n hL.1
  have e : M 14 2 = C * R := hL.2.2.2.1
  have hB : BdB 1000000 (M 25) := hO.1
  obtain ⟨n, hnn⟩ := znn (show 0 ≤ C * R by omega)
  rw [show (C * R).toNat = n by omega]
  refine zki_of rfl (Nat.le_of_ble_eq_true rfl) (SX9_allDifferences_0 ?_)
  refine zup (fun k => zT g (z1 o) mX9_allDifferences (zQi (z1 o) (fun r M' => r = smt (fun c => adf (M 25 c) (M 25 (alg C R c 0 1)) + adf (M 25 c) (M 25 (alg C R c 1 1))) n ∧ M' = M)) 4 [(0, zA g 1), (1, zI (smt (fun c => adf (M 25 c) (M 25 (alg C R c 0 1)) + adf (M 25 c) (M 25 (alg C R c 1 1))) k)), (2, zI k)] [] M) n (SX9_allDifferences_4 (C := C) (R := R) ⟨by omega, by omega, fun _ => ⟨rfl, rfl⟩, fun h => by omega⟩) (fun k hk ih => ?_)
  have hc : 0 ≤ (k : Int) ∧ (k : Int) < C * R := by omega
  have a0 := alg_in (w := 0) (k := 1) hL.1 hc
  have a1 := alg_in (w := 1) (k := 1) hL.1 hc
  have b := hB k (by omega) (by omega)
  have b0 := hB _ a0.1 (by omega)
  have b1 := hB _ a1.1 (by omega)
  refine SX9_allDifferences_4 (C := C) (R := R) ⟨by omega, by omega, fun h => by omega, fun h => ⟨by omega, hL, hc, by omega, by omega, by omega, by omega, ?_⟩⟩
  rw [Int.add_assoc]; exact ih
theorem c_slabsK (hs : zSd s) (hO : sOk M s) : zKi g (z1 o) mX5_slabs [zA g s] M (fun r M' => r = smt (M (s + 1)) 96 ∧ M' = M) := c_slabs hs
theorem c_highestK (hs : zSd s) (hO : sOk M s) : zKi g (z1 o) mX5_highest [zA g s] M (fun r M' => r = mxt (M (s + 1)) 96 ∧ M' = M) := c_highest hs (fun i h0 h1 => by have := hO.1 i h0 h1; omega)
theorem c_bareC (hs : zSd s) (hL : zLand M C R) (hO : sOk M s) (hx : x = C * R) : zKi g (z1 o) mX5_bareCells [zA g s, zI x] M (fun r M' => r = cnt (fun i => M (s + 1) i = 0) (C * R).toNat ∧ M' = M) := by
  have hn := geo_n hL.1
  obtain ⟨n, hnn⟩ := znn (show 0 ≤ C * R by omega)
  rw [hx, hnn, Int.toNat_natCast]
  exact c_bare hs (by omega) (fun i h0 h1 => by have := hO.1 i h0 h1; omega)
end QB
theorem dX9_all_0 : decode cX9_all 0 = .ok (.iload_n 1, 1) := by decide +kernel
theorem dX9_all_1 : decode cX9_all 1 = .ok (.tableswitch 94 0 6 #[43, 51, 59, 74, 79, 84, 89], 43) := by decide +kernel
theorem dX9_all_44 : decode cX9_all 44 = .ok (.aload_n 0, 1) := by decide +kernel
theorem dX9_all_45 : decode cX9_all 45 = .ok (.getfield 39, 3) := by decide +kernel
theorem dX9_all_48 : decode cX9_all 48 = .ok (.invokevirtual 219, 3) := by decide +kernel
theorem dX9_all_51 : decode cX9_all 51 = .ok (.ireturn, 1) := by decide +kernel
theorem dX9_all_52 : decode cX9_all 52 = .ok (.aload_n 0, 1) := by decide +kernel
theorem dX9_all_53 : decode cX9_all 53 = .ok (.getfield 39, 3) := by decide +kernel
theorem dX9_all_56 : decode cX9_all 56 = .ok (.invokevirtual 222, 3) := by decide +kernel
theorem dX9_all_59 : decode cX9_all 59 = .ok (.ireturn, 1) := by decide +kernel
theorem dX9_all_60 : decode cX9_all 60 = .ok (.aload_n 0, 1) := by decide +kernel
theorem dX9_all_61 : decode cX9_all 61 = .ok (.getfield 39, 3) := by decide +kernel
theorem dX9_all_64 : decode cX9_all 64 = .ok (.aload_n 0, 1) := by decide +kernel
theorem dX9_all_65 : decode cX9_all 65 = .ok (.getfield 28, 3) := by decide +kernel
theorem dX9_all_68 : decode cX9_all 68 = .ok (.getfield 120, 3) := by decide +kernel
theorem dX9_all_71 : decode cX9_all 71 = .ok (.invokevirtual 225, 3) := by decide +kernel
theorem dX9_all_74 : decode cX9_all 74 = .ok (.ireturn, 1) := by decide +kernel
theorem dX9_all_75 : decode cX9_all 75 = .ok (.aload_n 0, 1) := by decide +kernel
theorem dX9_all_76 : decode cX9_all 76 = .ok (.invokevirtual 228, 3) := by decide +kernel
theorem dX9_all_79 : decode cX9_all 79 = .ok (.ireturn, 1) := by decide +kernel
theorem dX9_all_80 : decode cX9_all 80 = .ok (.aload_n 0, 1) := by decide +kernel
theorem dX9_all_81 : decode cX9_all 81 = .ok (.invokevirtual 231, 3) := by decide +kernel
theorem dX9_all_84 : decode cX9_all 84 = .ok (.ireturn, 1) := by decide +kernel
theorem dX9_all_85 : decode cX9_all 85 = .ok (.aload_n 0, 1) := by decide +kernel
theorem dX9_all_86 : decode cX9_all 86 = .ok (.invokevirtual 234, 3) := by decide +kernel
theorem dX9_all_89 : decode cX9_all 89 = .ok (.ireturn, 1) := by decide +kernel
theorem dX9_all_90 : decode cX9_all 90 = .ok (.aload_n 0, 1) := by decide +kernel
theorem dX9_all_91 : decode cX9_all 91 = .ok (.invokevirtual 237, 3) := by decide +kernel
theorem dX9_all_94 : decode cX9_all 94 = .ok (.ireturn, 1) := by decide +kernel
theorem dX9_all_95 : decode cX9_all 95 = .ok (.iconst (-1), 1) := by decide +kernel
theorem dX9_all_96 : decode cX9_all 96 = .ok (.ireturn, 1) := by decide +kernel
set_option maxRecDepth 100000 in
theorem SX9_all_0 {g : zG} {o : Bool} {C R : Int} {M : zM} {q : Int → zM → Prop} {x1 : Int} (W : (-2147483648 ≤ x1 ∧ x1 ≤ 2147483647) ∧ (x1 = 0 → (sOk M 24) ∧ q (smt (M 25) 96) M) ∧ (x1 = 1 → (sOk M 24) ∧ q (mxt (M 25) 96) M) ∧ (x1 = 2 → (zLand M C R) ∧ (sOk M 24) ∧ ((M 14 2) = C * R) ∧ q (cnt (fun i => M 25 i = 0) (C * R).toNat) M) ∧ (x1 = 3 → (zLand M C R) ∧ (sOk M 24) ∧ q (cnt (fun c => shd C R (M 25) (M 27 1) c (wnd M (M 24 4))) (C * R).toNat) M) ∧ (x1 = 4 → (zLand M C R) ∧ (sOk M 24) ∧ q (mxt (fun c => stw C R (M 25) c 4) (C * R).toNat) M) ∧ (x1 = 5 → (zLand M C R) ∧ (sOk M 24) ∧ q (smt (fun c => adf (M 25 c) (M 25 (alg C R c 0 1)) + adf (M 25 c) (M 25 (alg C R c 1 1))) (C * R).toNat) M) ∧ (x1 = 6 → (zLand M C R) ∧ (sOk M 24) ∧ q (cnt (fun c => yld C R (M 25) (M 26) (M 27 1) c (wnd M (M 24 4))) (C * R).toNat) M) ∧ (x1 < 0 ∨ 6 < x1 → q (-1) M)) : zT g (z1 o) mX9_all (zQi (z1 o) q) 0 [(0, zA g 1), (1, zI x1)] [] M := by
  refine zr_iload_n 1 dX9_all_0 rfl ?_
  obtain ⟨c1, W⟩ := W
  by_cases e0 : x1 = 0
  · have W := W.1 e0
    refine zr_tin (tgt := 44) dX9_all_1 c1 (by omega) (by omega) (by rw [e0]; rfl) (by decide) ?_
    refine zr_aload_n 0 dX9_all_44 rfl ?_
    refine zr_getr (b := 24) dX9_all_45 fX9_39 rfl rfl rfl (by decide) ?_
    obtain ⟨c2, W⟩ := W
    refine zt_callVi (As := []) (rest := []) dX9_all_48 kX9_all_219 rfl rfl rfl rfl (Nat.le_of_ble_eq_true rfl) (c_slabsK (show zSd 24 by unfold zSd; decide) c2) (fun r3 N5 h4 => ?_)
    rw [h4.1, h4.2]
    exact zt_iret dX9_all_51 rfl W
  by_cases e1 : x1 = 1
  · have W := W.2.1 e1
    refine zr_tin (tgt := 52) dX9_all_1 c1 (by omega) (by omega) (by rw [e1]; rfl) (by decide) ?_
    refine zr_aload_n 0 dX9_all_52 rfl ?_
    refine zr_getr (b := 24) dX9_all_53 fX9_39 rfl rfl rfl (by decide) ?_
    obtain ⟨c6, W⟩ := W
    refine zt_callVi (As := []) (rest := []) dX9_all_56 kX9_all_222 rfl rfl rfl rfl (Nat.le_of_ble_eq_true rfl) (c_highestK (show zSd 24 by unfold zSd; decide) c6) (fun r7 N9 h8 => ?_)
    rw [h8.1, h8.2]
    exact zt_iret dX9_all_59 rfl W
  by_cases e2 : x1 = 2
  · have W := W.2.2.1 e2
    refine zr_tin (tgt := 60) dX9_all_1 c1 (by omega) (by omega) (by rw [e2]; rfl) (by decide) ?_
    refine zr_aload_n 0 dX9_all_60 rfl ?_
    refine zr_getr (b := 24) dX9_all_61 fX9_39 rfl rfl rfl (by decide) ?_
    refine zr_aload_n 0 dX9_all_64 rfl ?_
    refine zr_getr (b := 14) dX9_all_65 fX9_28 rfl rfl rfl (by decide) ?_
    refine zt_geti 2 rfl dX9_all_68 fX9_120 rfl (by decide) ?_
    obtain ⟨c10, W⟩ := W
    obtain ⟨c11, W⟩ := W
    obtain ⟨c12, W⟩ := W
    refine zt_callVi (As := [zI (M 14 2)]) (rest := []) dX9_all_71 kX9_all_225 rfl rfl rfl rfl (Nat.le_of_ble_eq_true rfl) (c_bareC (show zSd 24 by unfold zSd; decide) c10 c11 c12) (fun r13 N15 h14 => ?_)
    rw [h14.1, h14.2]
    exact zt_iret dX9_all_74 rfl W
  by_cases e3 : x1 = 3
  · have W := W.2.2.2.1 e3
    refine zr_tin (tgt := 75) dX9_all_1 c1 (by omega) (by omega) (by rw [e3]; rfl) (by decide) ?_
    refine zr_aload_n 0 dX9_all_75 rfl ?_
    obtain ⟨c16, W⟩ := W
    obtain ⟨c17, W⟩ := W
    refine zt_callVi (As := []) (rest := []) dX9_all_76 kX9_all_228 rfl rfl rfl rfl (Nat.le_of_ble_eq_true rfl) (c_shadedCells c16 c17) (fun r18 N20 h19 => ?_)
    rw [h19.1, h19.2]
    exact zt_iret dX9_all_79 rfl W
  by_cases e4 : x1 = 4
  · have W := W.2.2.2.2.1 e4
    refine zr_tin (tgt := 80) dX9_all_1 c1 (by omega) (by omega) (by rw [e4]; rfl) (by decide) ?_
    refine zr_aload_n 0 dX9_all_80 rfl ?_
    obtain ⟨c21, W⟩ := W
    obtain ⟨c22, W⟩ := W
    refine zt_callVi (As := []) (rest := []) dX9_all_81 kX9_all_231 rfl rfl rfl rfl (Nat.le_of_ble_eq_true rfl) (c_greatest c21 c22) (fun r23 N25 h24 => ?_)
    rw [h24.1, h24.2]
    exact zt_iret dX9_all_84 rfl W
  by_cases e5 : x1 = 5
  · have W := W.2.2.2.2.2.1 e5
    refine zr_tin (tgt := 85) dX9_all_1 c1 (by omega) (by omega) (by rw [e5]; rfl) (by decide) ?_
    refine zr_aload_n 0 dX9_all_85 rfl ?_
    obtain ⟨c26, W⟩ := W
    obtain ⟨c27, W⟩ := W
    refine zt_callVi (As := []) (rest := []) dX9_all_86 kX9_all_234 rfl rfl rfl rfl (Nat.le_of_ble_eq_true rfl) (c_allDiff c26 c27) (fun r28 N30 h29 => ?_)
    rw [h29.1, h29.2]
    exact zt_iret dX9_all_89 rfl W
  by_cases e6 : x1 = 6
  · have W := W.2.2.2.2.2.2.1 e6
    refine zr_tin (tgt := 90) dX9_all_1 c1 (by omega) (by omega) (by rw [e6]; rfl) (by decide) ?_
    refine zr_aload_n 0 dX9_all_90 rfl ?_
    obtain ⟨c31, W⟩ := W
    obtain ⟨c32, W⟩ := W
    refine zt_callVi (As := []) (rest := []) dX9_all_91 kX9_all_237 rfl rfl rfl rfl (Nat.le_of_ble_eq_true rfl) (c_yieldingCells c31 c32) (fun r33 N35 h34 => ?_)
    rw [h34.1, h34.2]
    exact zt_iret dX9_all_94 rfl W
  have W := W.2.2.2.2.2.2.2 (by omega)
  refine zr_tout (tgt := 95) dX9_all_1 c1 (by omega) (by decide) ?_
  refine zr_iconst dX9_all_95 ?_
  exact zt_iret dX9_all_96 rfl W
theorem dX9_cell_0 : decode cX9_cell 0 = .ok (.aload_n 0, 1) := by decide +kernel
theorem dX9_cell_1 : decode cX9_cell 1 = .ok (.getfield 28, 3) := by decide +kernel
theorem dX9_cell_4 : decode cX9_cell 4 = .ok (.iload_n 1, 1) := by decide +kernel
theorem dX9_cell_5 : decode cX9_cell 5 = .ok (.invokevirtual 148, 3) := by decide +kernel
theorem dX9_cell_8 : decode cX9_cell 8 = .ok (.ifCond .ne 5, 3) := by decide +kernel
theorem dX9_cell_11 : decode cX9_cell 11 = .ok (.iconst (-1), 1) := by decide +kernel
theorem dX9_cell_12 : decode cX9_cell 12 = .ok (.ireturn, 1) := by decide +kernel
theorem dX9_cell_13 : decode cX9_cell 13 = .ok (.iload_n 2, 1) := by decide +kernel
theorem dX9_cell_14 : decode cX9_cell 14 = .ok (.tableswitch 102 0 4 #[34, 44, 65, 75, 81], 34) := by decide +kernel
theorem dX9_cell_48 : decode cX9_cell 48 = .ok (.aload_n 0, 1) := by decide +kernel
theorem dX9_cell_49 : decode cX9_cell 49 = .ok (.getfield 39, 3) := by decide +kernel
theorem dX9_cell_52 : decode cX9_cell 52 = .ok (.getfield 152, 3) := by decide +kernel
theorem dX9_cell_55 : decode cX9_cell 55 = .ok (.iload_n 1, 1) := by decide +kernel
theorem dX9_cell_56 : decode cX9_cell 56 = .ok (.iaload, 1) := by decide +kernel
theorem dX9_cell_57 : decode cX9_cell 57 = .ok (.ireturn, 1) := by decide +kernel
theorem dX9_cell_58 : decode cX9_cell 58 = .ok (.aload_n 0, 1) := by decide +kernel
theorem dX9_cell_59 : decode cX9_cell 59 = .ok (.getfield 50, 3) := by decide +kernel
theorem dX9_cell_62 : decode cX9_cell 62 = .ok (.iload_n 1, 1) := by decide +kernel
theorem dX9_cell_63 : decode cX9_cell 63 = .ok (.aload_n 0, 1) := by decide +kernel
theorem dX9_cell_64 : decode cX9_cell 64 = .ok (.invokevirtual 155, 3) := by decide +kernel
theorem dX9_cell_67 : decode cX9_cell 67 = .ok (.invokevirtual 159, 3) := by decide +kernel
theorem dX9_cell_70 : decode cX9_cell 70 = .ok (.ifCond .eq 7, 3) := by decide +kernel
theorem dX9_cell_73 : decode cX9_cell 73 = .ok (.iconst 1, 1) := by decide +kernel
theorem dX9_cell_74 : decode cX9_cell 74 = .ok (.goto 4, 3) := by decide +kernel
theorem dX9_cell_77 : decode cX9_cell 77 = .ok (.iconst 0, 1) := by decide +kernel
theorem dX9_cell_78 : decode cX9_cell 78 = .ok (.ireturn, 1) := by decide +kernel
theorem dX9_cell_79 : decode cX9_cell 79 = .ok (.aload_n 0, 1) := by decide +kernel
theorem dX9_cell_80 : decode cX9_cell 80 = .ok (.getfield 39, 3) := by decide +kernel
theorem dX9_cell_83 : decode cX9_cell 83 = .ok (.getfield 163, 3) := by decide +kernel
theorem dX9_cell_86 : decode cX9_cell 86 = .ok (.iload_n 1, 1) := by decide +kernel
theorem dX9_cell_87 : decode cX9_cell 87 = .ok (.iaload, 1) := by decide +kernel
theorem dX9_cell_88 : decode cX9_cell 88 = .ok (.ireturn, 1) := by decide +kernel
theorem dX9_cell_89 : decode cX9_cell 89 = .ok (.aload_n 0, 1) := by decide +kernel
theorem dX9_cell_90 : decode cX9_cell 90 = .ok (.iload_n 1, 1) := by decide +kernel
theorem dX9_cell_91 : decode cX9_cell 91 = .ok (.invokevirtual 166, 3) := by decide +kernel
theorem dX9_cell_94 : decode cX9_cell 94 = .ok (.ireturn, 1) := by decide +kernel
theorem dX9_cell_95 : decode cX9_cell 95 = .ok (.aload_n 0, 1) := by decide +kernel
theorem dX9_cell_96 : decode cX9_cell 96 = .ok (.getfield 50, 3) := by decide +kernel
theorem dX9_cell_99 : decode cX9_cell 99 = .ok (.iload_n 1, 1) := by decide +kernel
theorem dX9_cell_100 : decode cX9_cell 100 = .ok (.aload_n 0, 1) := by decide +kernel
theorem dX9_cell_101 : decode cX9_cell 101 = .ok (.invokevirtual 155, 3) := by decide +kernel
theorem dX9_cell_104 : decode cX9_cell 104 = .ok (.invokevirtual 170, 3) := by decide +kernel
theorem dX9_cell_107 : decode cX9_cell 107 = .ok (.ifCond .eq 7, 3) := by decide +kernel
theorem dX9_cell_110 : decode cX9_cell 110 = .ok (.iconst 1, 1) := by decide +kernel
theorem dX9_cell_111 : decode cX9_cell 111 = .ok (.goto 4, 3) := by decide +kernel
theorem dX9_cell_114 : decode cX9_cell 114 = .ok (.iconst 0, 1) := by decide +kernel
theorem dX9_cell_115 : decode cX9_cell 115 = .ok (.ireturn, 1) := by decide +kernel
theorem dX9_cell_116 : decode cX9_cell 116 = .ok (.iconst (-1), 1) := by decide +kernel
theorem dX9_cell_117 : decode cX9_cell 117 = .ok (.ireturn, 1) := by decide +kernel
set_option maxRecDepth 100000 in
theorem SX9_cell_0 {g : zG} {o : Bool} {C R : Int} {M : zM} {q : Int → zM → Prop} {x1 x2 : Int} (W : (-2147483648 ≤ x1 ∧ x1 ≤ 2147483647) ∧ (zLand M C R) ∧ ((0 ≤ x1 ∧ x1 < C * R) → (-2147483648 ≤ x2 ∧ x2 ≤ 2147483647) ∧ (x2 = 0 → (0 ≤ x1 ∧ x1 < 96) ∧ q (M 25 x1) M) ∧ (x2 = 1 → (sOk M 24) ∧ (0 ≤ x1 ∧ x1 < C * R) ∧ (0 ≤ (wnd M (M 24 4)) ∧ (wnd M (M 24 4)) ≤ 3) ∧ (Bd (M 25)) ∧ (0 ≤ M 27 1 ∧ M 27 1 ≤ 9) ∧ ((¬ (shd C R (M 25) (M 27 1) x1 (wnd M (M 24 4)))) → q 0 M) ∧ ((shd C R (M 25) (M 27 1) x1 (wnd M (M 24 4))) → q 1 M)) ∧ (x2 = 2 → (0 ≤ x1 ∧ x1 < 96) ∧ q (M 26 x1) M) ∧ (x2 = 3 → (sOk M 24) ∧ (0 ≤ x1 ∧ x1 < C * R) ∧ q (stw C R (M 25) x1 4) M) ∧ (x2 = 4 → (sOk M 24) ∧ (0 ≤ x1 ∧ x1 < C * R) ∧ (0 ≤ (wnd M (M 24 4)) ∧ (wnd M (M 24 4)) ≤ 3) ∧ (Bd (M 25)) ∧ ((¬ (crest C R (M 25) x1 (wnd M (M 24 4)))) → q 0 M) ∧ ((crest C R (M 25) x1 (wnd M (M 24 4))) → q 1 M)) ∧ (x2 < 0 ∨ 4 < x2 → q (-1) M)) ∧ ((¬ (0 ≤ x1 ∧ x1 < C * R)) → q (-1) M)) : zT g (z1 o) mX9_cell (zQi (z1 o) q) 0 [(0, zA g 1), (1, zI x1), (2, zI x2)] [] M := by
  refine zr_aload_n 0 dX9_cell_0 rfl ?_
  refine zr_getr (b := 14) dX9_cell_1 fX9_28 rfl rfl rfl (by decide) ?_
  refine zr_iload_n 1 dX9_cell_4 rfl ?_
  obtain ⟨c1, W⟩ := W
  obtain ⟨c2, W⟩ := W
  refine zt_callVi (As := [zI x1]) (rest := []) dX9_cell_5 kX9_cell_148 rfl rfl rfl rfl (Nat.le_of_ble_eq_true rfl) (c_has c1 c2) (fun r3 N5 h4 => ?_)
  rw [h4.1, h4.2]
  refine zt_ifne_b (tgt := 13) dX9_cell_8 (by decide) (fun h => ?_) (fun h => ?_)
  · have W := W.1 h
    refine zr_iload_n 2 dX9_cell_13 rfl ?_
    obtain ⟨c6, W⟩ := W
    by_cases e0 : x2 = 0
    · have W := W.1 e0
      refine zr_tin (tgt := 48) dX9_cell_14 c6 (by omega) (by omega) (by rw [e0]; rfl) (by decide) ?_
      refine zr_aload_n 0 dX9_cell_48 rfl ?_
      refine zr_getr (b := 24) dX9_cell_49 fX9_39 rfl rfl rfl (by decide) ?_
      refine zr_getr (b := 25) dX9_cell_52 fX9_152 rfl rfl rfl (by decide) ?_
      refine zr_iload_n 1 dX9_cell_55 rfl ?_
      obtain ⟨c7, W⟩ := W
      refine zr_iald dX9_cell_56 rfl (by decide) c7 ?_
      exact zt_iret dX9_cell_57 rfl W
    by_cases e1 : x2 = 1
    · have W := W.2.1 e1
      refine zr_tin (tgt := 58) dX9_cell_14 c6 (by omega) (by omega) (by rw [e1]; rfl) (by decide) ?_
      refine zr_aload_n 0 dX9_cell_58 rfl ?_
      refine zr_getr (b := 32) dX9_cell_59 fX9_50 rfl rfl rfl (by decide) ?_
      refine zr_iload_n 1 dX9_cell_62 rfl ?_
      refine zr_aload_n 0 dX9_cell_63 rfl ?_
      obtain ⟨c8, W⟩ := W
      refine zt_callVi (As := []) (rest := [zI x1, zA g 32]) dX9_cell_64 kX9_cell_155 rfl rfl rfl rfl (Nat.le_of_ble_eq_true rfl) (c_windNow1 c2 c8) (fun r9 N11 h10 => ?_)
      rw [h10.1, h10.2]
      obtain ⟨c12, W⟩ := W
      obtain ⟨c13, W⟩ := W
      obtain ⟨c14, W⟩ := W
      obtain ⟨c15, W⟩ := W
      refine zt_callVi (As := [zI x1, zI (wnd M (M 24 4))]) (rest := []) dX9_cell_67 kX9_cell_159 rfl rfl rfl rfl (Nat.le_of_ble_eq_true rfl) (c_shaded (show zSt 32 24 by unfold zSt; decide) c2 c12 c13 c14 c15) (fun r16 N18 h17 => ?_)
      rw [h17.1, h17.2]
      refine zt_ifeq_b (tgt := 77) dX9_cell_70 (by decide) (fun h => ?_) (fun h => ?_)
      · have W := W.1 h
        refine zr_iconst dX9_cell_77 ?_
        exact zt_iret dX9_cell_78 rfl W
      · have W := W.2 h
        refine zr_iconst dX9_cell_73 ?_
        refine zr_goto (tgt := 78) dX9_cell_74 (by decide) ?_
        exact zt_iret dX9_cell_78 rfl W
    by_cases e2 : x2 = 2
    · have W := W.2.2.1 e2
      refine zr_tin (tgt := 79) dX9_cell_14 c6 (by omega) (by omega) (by rw [e2]; rfl) (by decide) ?_
      refine zr_aload_n 0 dX9_cell_79 rfl ?_
      refine zr_getr (b := 24) dX9_cell_80 fX9_39 rfl rfl rfl (by decide) ?_
      refine zr_getr (b := 26) dX9_cell_83 fX9_163 rfl rfl rfl (by decide) ?_
      refine zr_iload_n 1 dX9_cell_86 rfl ?_
      obtain ⟨c19, W⟩ := W
      refine zr_iald dX9_cell_87 rfl (by decide) c19 ?_
      exact zt_iret dX9_cell_88 rfl W
    by_cases e3 : x2 = 3
    · have W := W.2.2.2.1 e3
      refine zr_tin (tgt := 89) dX9_cell_14 c6 (by omega) (by omega) (by rw [e3]; rfl) (by decide) ?_
      refine zr_aload_n 0 dX9_cell_89 rfl ?_
      refine zr_iload_n 1 dX9_cell_90 rfl ?_
      obtain ⟨c20, W⟩ := W
      obtain ⟨c21, W⟩ := W
      refine zt_callVi (As := [zI x1]) (rest := []) dX9_cell_91 kX9_cell_166 rfl rfl rfl rfl (Nat.le_of_ble_eq_true rfl) (c_steepness c2 c20 c21) (fun r22 N24 h23 => ?_)
      rw [h23.1, h23.2]
      exact zt_iret dX9_cell_94 rfl W
    by_cases e4 : x2 = 4
    · have W := W.2.2.2.2.1 e4
      refine zr_tin (tgt := 95) dX9_cell_14 c6 (by omega) (by omega) (by rw [e4]; rfl) (by decide) ?_
      refine zr_aload_n 0 dX9_cell_95 rfl ?_
      refine zr_getr (b := 32) dX9_cell_96 fX9_50 rfl rfl rfl (by decide) ?_
      refine zr_iload_n 1 dX9_cell_99 rfl ?_
      refine zr_aload_n 0 dX9_cell_100 rfl ?_
      obtain ⟨c25, W⟩ := W
      refine zt_callVi (As := []) (rest := [zI x1, zA g 32]) dX9_cell_101 kX9_cell_155 rfl rfl rfl rfl (Nat.le_of_ble_eq_true rfl) (c_windNow1 c2 c25) (fun r26 N28 h27 => ?_)
      rw [h27.1, h27.2]
      obtain ⟨c29, W⟩ := W
      obtain ⟨c30, W⟩ := W
      obtain ⟨c31, W⟩ := W
      refine zt_callVi (As := [zI x1, zI (wnd M (M 24 4))]) (rest := []) dX9_cell_104 kX9_cell_170 rfl rfl rfl rfl (Nat.le_of_ble_eq_true rfl) (c_crest (show zSt 32 24 by unfold zSt; decide) c2 c29 c30 c31) (fun r32 N34 h33 => ?_)
      rw [h33.1, h33.2]
      refine zt_ifeq_b (tgt := 114) dX9_cell_107 (by decide) (fun h => ?_) (fun h => ?_)
      · have W := W.1 h
        refine zr_iconst dX9_cell_114 ?_
        exact zt_iret dX9_cell_115 rfl W
      · have W := W.2 h
        refine zr_iconst dX9_cell_110 ?_
        refine zr_goto (tgt := 115) dX9_cell_111 (by decide) ?_
        exact zt_iret dX9_cell_115 rfl W
    have W := W.2.2.2.2.2 (by omega)
    refine zr_tout (tgt := 116) dX9_cell_14 c6 (by omega) (by decide) ?_
    refine zr_iconst dX9_cell_116 ?_
    exact zt_iret dX9_cell_117 rfl W
  · have W := W.2 h
    refine zr_iconst dX9_cell_11 ?_
    exact zt_iret dX9_cell_12 rfl W
theorem dX9_about_0 : decode cX9_about 0 = .ok (.iload_n 1, 1) := by decide +kernel
theorem dX9_about_1 : decode cX9_about 1 = .ok (.tableswitch 221 0 16 #[83, 91, 99, 107, 115, 123, 133, 143, 151, 161, 171, 176, 184, 192, 200, 208, 213], 83) := by decide +kernel
theorem dX9_about_84 : decode cX9_about 84 = .ok (.aload_n 0, 1) := by decide +kernel
theorem dX9_about_85 : decode cX9_about 85 = .ok (.getfield 28, 3) := by decide +kernel
theorem dX9_about_88 : decode cX9_about 88 = .ok (.getfield 246, 3) := by decide +kernel
theorem dX9_about_91 : decode cX9_about 91 = .ok (.ireturn, 1) := by decide +kernel
theorem dX9_about_92 : decode cX9_about 92 = .ok (.aload_n 0, 1) := by decide +kernel
theorem dX9_about_93 : decode cX9_about 93 = .ok (.getfield 28, 3) := by decide +kernel
theorem dX9_about_96 : decode cX9_about 96 = .ok (.getfield 249, 3) := by decide +kernel
theorem dX9_about_99 : decode cX9_about 99 = .ok (.ireturn, 1) := by decide +kernel
theorem dX9_about_100 : decode cX9_about 100 = .ok (.aload_n 0, 1) := by decide +kernel
theorem dX9_about_101 : decode cX9_about 101 = .ok (.getfield 28, 3) := by decide +kernel
theorem dX9_about_104 : decode cX9_about 104 = .ok (.getfield 120, 3) := by decide +kernel
theorem dX9_about_107 : decode cX9_about 107 = .ok (.ireturn, 1) := by decide +kernel
theorem dX9_about_108 : decode cX9_about 108 = .ok (.aload_n 0, 1) := by decide +kernel
theorem dX9_about_109 : decode cX9_about 109 = .ok (.getfield 39, 3) := by decide +kernel
theorem dX9_about_112 : decode cX9_about 112 = .ok (.getfield 338, 3) := by decide +kernel
theorem dX9_about_115 : decode cX9_about 115 = .ok (.ireturn, 1) := by decide +kernel
theorem dX9_about_116 : decode cX9_about 116 = .ok (.aload_n 0, 1) := by decide +kernel
theorem dX9_about_117 : decode cX9_about 117 = .ok (.getfield 39, 3) := by decide +kernel
theorem dX9_about_120 : decode cX9_about 120 = .ok (.getfield 177, 3) := by decide +kernel
theorem dX9_about_123 : decode cX9_about 123 = .ok (.ireturn, 1) := by decide +kernel
theorem dX9_about_124 : decode cX9_about 124 = .ok (.aload_n 0, 1) := by decide +kernel
theorem dX9_about_125 : decode cX9_about 125 = .ok (.getfield 39, 3) := by decide +kernel
theorem dX9_about_128 : decode cX9_about 128 = .ok (.getfield 209, 3) := by decide +kernel
theorem dX9_about_131 : decode cX9_about 131 = .ok (.iconst 0, 1) := by decide +kernel
theorem dX9_about_132 : decode cX9_about 132 = .ok (.iaload, 1) := by decide +kernel
theorem dX9_about_133 : decode cX9_about 133 = .ok (.ireturn, 1) := by decide +kernel
theorem dX9_about_134 : decode cX9_about 134 = .ok (.aload_n 0, 1) := by decide +kernel
theorem dX9_about_135 : decode cX9_about 135 = .ok (.getfield 39, 3) := by decide +kernel
theorem dX9_about_138 : decode cX9_about 138 = .ok (.getfield 209, 3) := by decide +kernel
theorem dX9_about_141 : decode cX9_about 141 = .ok (.iconst 1, 1) := by decide +kernel
theorem dX9_about_142 : decode cX9_about 142 = .ok (.iaload, 1) := by decide +kernel
theorem dX9_about_143 : decode cX9_about 143 = .ok (.ireturn, 1) := by decide +kernel
theorem dX9_about_144 : decode cX9_about 144 = .ok (.aload_n 0, 1) := by decide +kernel
theorem dX9_about_145 : decode cX9_about 145 = .ok (.getfield 28, 3) := by decide +kernel
theorem dX9_about_148 : decode cX9_about 148 = .ok (.getfield 391, 3) := by decide +kernel
theorem dX9_about_151 : decode cX9_about 151 = .ok (.ireturn, 1) := by decide +kernel
theorem dX9_about_152 : decode cX9_about 152 = .ok (.aload_n 0, 1) := by decide +kernel
theorem dX9_about_153 : decode cX9_about 153 = .ok (.getfield 39, 3) := by decide +kernel
theorem dX9_about_156 : decode cX9_about 156 = .ok (.getfield 209, 3) := by decide +kernel
theorem dX9_about_159 : decode cX9_about 159 = .ok (.iconst 2, 1) := by decide +kernel
theorem dX9_about_160 : decode cX9_about 160 = .ok (.iaload, 1) := by decide +kernel
theorem dX9_about_161 : decode cX9_about 161 = .ok (.ireturn, 1) := by decide +kernel
theorem dX9_about_162 : decode cX9_about 162 = .ok (.aload_n 0, 1) := by decide +kernel
theorem dX9_about_163 : decode cX9_about 163 = .ok (.getfield 39, 3) := by decide +kernel
theorem dX9_about_166 : decode cX9_about 166 = .ok (.getfield 209, 3) := by decide +kernel
theorem dX9_about_169 : decode cX9_about 169 = .ok (.iconst 3, 1) := by decide +kernel
theorem dX9_about_170 : decode cX9_about 170 = .ok (.iaload, 1) := by decide +kernel
theorem dX9_about_171 : decode cX9_about 171 = .ok (.ireturn, 1) := by decide +kernel
theorem dX9_about_172 : decode cX9_about 172 = .ok (.aload_n 0, 1) := by decide +kernel
theorem dX9_about_173 : decode cX9_about 173 = .ok (.invokevirtual 200, 3) := by decide +kernel
theorem dX9_about_176 : decode cX9_about 176 = .ok (.ireturn, 1) := by decide +kernel
theorem dX9_about_177 : decode cX9_about 177 = .ok (.aload_n 0, 1) := by decide +kernel
theorem dX9_about_178 : decode cX9_about 178 = .ok (.getfield 28, 3) := by decide +kernel
theorem dX9_about_181 : decode cX9_about 181 = .ok (.getfield 394, 3) := by decide +kernel
theorem dX9_about_184 : decode cX9_about 184 = .ok (.ireturn, 1) := by decide +kernel
theorem dX9_about_185 : decode cX9_about 185 = .ok (.aload_n 0, 1) := by decide +kernel
theorem dX9_about_186 : decode cX9_about 186 = .ok (.getfield 60, 3) := by decide +kernel
theorem dX9_about_189 : decode cX9_about 189 = .ok (.getfield 397, 3) := by decide +kernel
theorem dX9_about_192 : decode cX9_about 192 = .ok (.ireturn, 1) := by decide +kernel
theorem dX9_about_193 : decode cX9_about 193 = .ok (.aload_n 0, 1) := by decide +kernel
theorem dX9_about_194 : decode cX9_about 194 = .ok (.getfield 60, 3) := by decide +kernel
theorem dX9_about_197 : decode cX9_about 197 = .ok (.getfield 400, 3) := by decide +kernel
theorem dX9_about_200 : decode cX9_about 200 = .ok (.ireturn, 1) := by decide +kernel
theorem dX9_about_201 : decode cX9_about 201 = .ok (.aload_n 0, 1) := by decide +kernel
theorem dX9_about_202 : decode cX9_about 202 = .ok (.getfield 69, 3) := by decide +kernel
theorem dX9_about_205 : decode cX9_about 205 = .ok (.getfield 145, 3) := by decide +kernel
theorem dX9_about_208 : decode cX9_about 208 = .ok (.ireturn, 1) := by decide +kernel
theorem dX9_about_209 : decode cX9_about 209 = .ok (.aload_n 0, 1) := by decide +kernel
theorem dX9_about_210 : decode cX9_about 210 = .ok (.getfield 97, 3) := by decide +kernel
theorem dX9_about_213 : decode cX9_about 213 = .ok (.ireturn, 1) := by decide +kernel
theorem dX9_about_214 : decode cX9_about 214 = .ok (.aload_n 0, 1) := by decide +kernel
theorem dX9_about_215 : decode cX9_about 215 = .ok (.getfield 10, 3) := by decide +kernel
theorem dX9_about_218 : decode cX9_about 218 = .ok (.getfield 109, 3) := by decide +kernel
theorem dX9_about_221 : decode cX9_about 221 = .ok (.ireturn, 1) := by decide +kernel
theorem dX9_about_222 : decode cX9_about 222 = .ok (.iconst (-1), 1) := by decide +kernel
theorem dX9_about_223 : decode cX9_about 223 = .ok (.ireturn, 1) := by decide +kernel
set_option maxRecDepth 100000 in
theorem SX9_about_0 {g : zG} {o : Bool} {C R : Int} {M : zM} {q : Int → zM → Prop} {x1 : Int} (W : (-2147483648 ≤ x1 ∧ x1 ≤ 2147483647) ∧ (x1 = 0 → q (M 14 0) M) ∧ (x1 = 1 → q (M 14 1) M) ∧ (x1 = 2 → q (M 14 2) M) ∧ (x1 = 3 → q (M 24 3) M) ∧ (x1 = 4 → q (M 24 4) M) ∧ (x1 = 5 → q (M 27 0) M) ∧ (x1 = 6 → q (M 27 1) M) ∧ (x1 = 7 → q (M 14 3) M) ∧ (x1 = 8 → q (M 27 2) M) ∧ (x1 = 9 → q (M 27 3) M) ∧ (x1 = 10 → (zLand M C R) ∧ (sOk M 24) ∧ q (smt (M 26) (C * R).toNat) M) ∧ (x1 = 11 → q (M 14 5) M) ∧ (x1 = 12 → q (M 36 1) M) ∧ (x1 = 13 → q (M 36 2) M) ∧ (x1 = 14 → q (M 122 8) M) ∧ (x1 = 15 → q (M 1 15) M) ∧ (x1 = 16 → q (M 2 1) M) ∧ (x1 < 0 ∨ 16 < x1 → q (-1) M)) : zT g (z1 o) mX9_about (zQi (z1 o) q) 0 [(0, zA g 1), (1, zI x1)] [] M := by
  refine zr_iload_n 1 dX9_about_0 rfl ?_
  obtain ⟨c1, W⟩ := W
  by_cases e0 : x1 = 0
  · have W := W.1 e0
    refine zr_tin (tgt := 84) dX9_about_1 c1 (by omega) (by omega) (by rw [e0]; rfl) (by decide) ?_
    refine zr_aload_n 0 dX9_about_84 rfl ?_
    refine zr_getr (b := 14) dX9_about_85 fX9_28 rfl rfl rfl (by decide) ?_
    refine zt_geti 0 rfl dX9_about_88 fX9_246 rfl (by decide) ?_
    exact zt_iret dX9_about_91 rfl W
  by_cases e1 : x1 = 1
  · have W := W.2.1 e1
    refine zr_tin (tgt := 92) dX9_about_1 c1 (by omega) (by omega) (by rw [e1]; rfl) (by decide) ?_
    refine zr_aload_n 0 dX9_about_92 rfl ?_
    refine zr_getr (b := 14) dX9_about_93 fX9_28 rfl rfl rfl (by decide) ?_
    refine zt_geti 1 rfl dX9_about_96 fX9_249 rfl (by decide) ?_
    exact zt_iret dX9_about_99 rfl W
  by_cases e2 : x1 = 2
  · have W := W.2.2.1 e2
    refine zr_tin (tgt := 100) dX9_about_1 c1 (by omega) (by omega) (by rw [e2]; rfl) (by decide) ?_
    refine zr_aload_n 0 dX9_about_100 rfl ?_
    refine zr_getr (b := 14) dX9_about_101 fX9_28 rfl rfl rfl (by decide) ?_
    refine zt_geti 2 rfl dX9_about_104 fX9_120 rfl (by decide) ?_
    exact zt_iret dX9_about_107 rfl W
  by_cases e3 : x1 = 3
  · have W := W.2.2.2.1 e3
    refine zr_tin (tgt := 108) dX9_about_1 c1 (by omega) (by omega) (by rw [e3]; rfl) (by decide) ?_
    refine zr_aload_n 0 dX9_about_108 rfl ?_
    refine zr_getr (b := 24) dX9_about_109 fX9_39 rfl rfl rfl (by decide) ?_
    refine zt_geti 3 rfl dX9_about_112 fX9_338 rfl (by decide) ?_
    exact zt_iret dX9_about_115 rfl W
  by_cases e4 : x1 = 4
  · have W := W.2.2.2.2.1 e4
    refine zr_tin (tgt := 116) dX9_about_1 c1 (by omega) (by omega) (by rw [e4]; rfl) (by decide) ?_
    refine zr_aload_n 0 dX9_about_116 rfl ?_
    refine zr_getr (b := 24) dX9_about_117 fX9_39 rfl rfl rfl (by decide) ?_
    refine zt_geti 4 rfl dX9_about_120 fX9_177 rfl (by decide) ?_
    exact zt_iret dX9_about_123 rfl W
  by_cases e5 : x1 = 5
  · have W := W.2.2.2.2.2.1 e5
    refine zr_tin (tgt := 124) dX9_about_1 c1 (by omega) (by omega) (by rw [e5]; rfl) (by decide) ?_
    refine zr_aload_n 0 dX9_about_124 rfl ?_
    refine zr_getr (b := 24) dX9_about_125 fX9_39 rfl rfl rfl (by decide) ?_
    refine zr_getr (b := 27) dX9_about_128 fX9_209 rfl rfl rfl (by decide) ?_
    refine zr_iconst dX9_about_131 ?_
    refine zr_iald dX9_about_132 rfl (by decide) ⟨by decide, by decide⟩ ?_
    exact zt_iret dX9_about_133 rfl W
  by_cases e6 : x1 = 6
  · have W := W.2.2.2.2.2.2.1 e6
    refine zr_tin (tgt := 134) dX9_about_1 c1 (by omega) (by omega) (by rw [e6]; rfl) (by decide) ?_
    refine zr_aload_n 0 dX9_about_134 rfl ?_
    refine zr_getr (b := 24) dX9_about_135 fX9_39 rfl rfl rfl (by decide) ?_
    refine zr_getr (b := 27) dX9_about_138 fX9_209 rfl rfl rfl (by decide) ?_
    refine zr_iconst dX9_about_141 ?_
    refine zr_iald dX9_about_142 rfl (by decide) ⟨by decide, by decide⟩ ?_
    exact zt_iret dX9_about_143 rfl W
  by_cases e7 : x1 = 7
  · have W := W.2.2.2.2.2.2.2.1 e7
    refine zr_tin (tgt := 144) dX9_about_1 c1 (by omega) (by omega) (by rw [e7]; rfl) (by decide) ?_
    refine zr_aload_n 0 dX9_about_144 rfl ?_
    refine zr_getr (b := 14) dX9_about_145 fX9_28 rfl rfl rfl (by decide) ?_
    refine zt_geti 3 rfl dX9_about_148 fX9_391 rfl (by decide) ?_
    exact zt_iret dX9_about_151 rfl W
  by_cases e8 : x1 = 8
  · have W := W.2.2.2.2.2.2.2.2.1 e8
    refine zr_tin (tgt := 152) dX9_about_1 c1 (by omega) (by omega) (by rw [e8]; rfl) (by decide) ?_
    refine zr_aload_n 0 dX9_about_152 rfl ?_
    refine zr_getr (b := 24) dX9_about_153 fX9_39 rfl rfl rfl (by decide) ?_
    refine zr_getr (b := 27) dX9_about_156 fX9_209 rfl rfl rfl (by decide) ?_
    refine zr_iconst dX9_about_159 ?_
    refine zr_iald dX9_about_160 rfl (by decide) ⟨by decide, by decide⟩ ?_
    exact zt_iret dX9_about_161 rfl W
  by_cases e9 : x1 = 9
  · have W := W.2.2.2.2.2.2.2.2.2.1 e9
    refine zr_tin (tgt := 162) dX9_about_1 c1 (by omega) (by omega) (by rw [e9]; rfl) (by decide) ?_
    refine zr_aload_n 0 dX9_about_162 rfl ?_
    refine zr_getr (b := 24) dX9_about_163 fX9_39 rfl rfl rfl (by decide) ?_
    refine zr_getr (b := 27) dX9_about_166 fX9_209 rfl rfl rfl (by decide) ?_
    refine zr_iconst dX9_about_169 ?_
    refine zr_iald dX9_about_170 rfl (by decide) ⟨by decide, by decide⟩ ?_
    exact zt_iret dX9_about_171 rfl W
  by_cases e10 : x1 = 10
  · have W := W.2.2.2.2.2.2.2.2.2.2.1 e10
    refine zr_tin (tgt := 172) dX9_about_1 c1 (by omega) (by omega) (by rw [e10]; rfl) (by decide) ?_
    refine zr_aload_n 0 dX9_about_172 rfl ?_
    obtain ⟨c2, W⟩ := W
    obtain ⟨c3, W⟩ := W
    refine zt_callVi (As := []) (rest := []) dX9_about_173 kX9_about_200 rfl rfl rfl rfl (Nat.le_of_ble_eq_true rfl) (c_grassy c2 c3) (fun r4 N6 h5 => ?_)
    rw [h5.1, h5.2]
    exact zt_iret dX9_about_176 rfl W
  by_cases e11 : x1 = 11
  · have W := W.2.2.2.2.2.2.2.2.2.2.2.1 e11
    refine zr_tin (tgt := 177) dX9_about_1 c1 (by omega) (by omega) (by rw [e11]; rfl) (by decide) ?_
    refine zr_aload_n 0 dX9_about_177 rfl ?_
    refine zr_getr (b := 14) dX9_about_178 fX9_28 rfl rfl rfl (by decide) ?_
    refine zt_geti 5 rfl dX9_about_181 fX9_394 rfl (by decide) ?_
    exact zt_iret dX9_about_184 rfl W
  by_cases e12 : x1 = 12
  · have W := W.2.2.2.2.2.2.2.2.2.2.2.2.1 e12
    refine zr_tin (tgt := 185) dX9_about_1 c1 (by omega) (by omega) (by rw [e12]; rfl) (by decide) ?_
    refine zr_aload_n 0 dX9_about_185 rfl ?_
    refine zr_getr (b := 36) dX9_about_186 fX9_60 rfl rfl rfl (by decide) ?_
    refine zt_geti 1 rfl dX9_about_189 fX9_397 rfl (by decide) ?_
    exact zt_iret dX9_about_192 rfl W
  by_cases e13 : x1 = 13
  · have W := W.2.2.2.2.2.2.2.2.2.2.2.2.2.1 e13
    refine zr_tin (tgt := 193) dX9_about_1 c1 (by omega) (by omega) (by rw [e13]; rfl) (by decide) ?_
    refine zr_aload_n 0 dX9_about_193 rfl ?_
    refine zr_getr (b := 36) dX9_about_194 fX9_60 rfl rfl rfl (by decide) ?_
    refine zt_geti 2 rfl dX9_about_197 fX9_400 rfl (by decide) ?_
    exact zt_iret dX9_about_200 rfl W
  by_cases e14 : x1 = 14
  · have W := W.2.2.2.2.2.2.2.2.2.2.2.2.2.2.1 e14
    refine zr_tin (tgt := 201) dX9_about_1 c1 (by omega) (by omega) (by rw [e14]; rfl) (by decide) ?_
    refine zr_aload_n 0 dX9_about_201 rfl ?_
    refine zr_getr (b := 122) dX9_about_202 fX9_69 rfl rfl rfl (by decide) ?_
    refine zt_geti 8 rfl dX9_about_205 fX9_145 rfl (by decide) ?_
    exact zt_iret dX9_about_208 rfl W
  by_cases e15 : x1 = 15
  · have W := W.2.2.2.2.2.2.2.2.2.2.2.2.2.2.2.1 e15
    refine zr_tin (tgt := 209) dX9_about_1 c1 (by omega) (by omega) (by rw [e15]; rfl) (by decide) ?_
    refine zr_aload_n 0 dX9_about_209 rfl ?_
    refine zt_geti 15 rfl dX9_about_210 fX9_97 rfl (by decide) ?_
    exact zt_iret dX9_about_213 rfl W
  by_cases e16 : x1 = 16
  · have W := W.2.2.2.2.2.2.2.2.2.2.2.2.2.2.2.2.1 e16
    refine zr_tin (tgt := 214) dX9_about_1 c1 (by omega) (by omega) (by rw [e16]; rfl) (by decide) ?_
    refine zr_aload_n 0 dX9_about_214 rfl ?_
    refine zr_getr (b := 2) dX9_about_215 fX9_10 rfl rfl rfl (by decide) ?_
    refine zt_geti 1 rfl dX9_about_218 fX9_109 rfl (by decide) ?_
    exact zt_iret dX9_about_221 rfl W
  have W := W.2.2.2.2.2.2.2.2.2.2.2.2.2.2.2.2.2 (by omega)
  refine zr_tout (tgt := 222) dX9_about_1 c1 (by omega) (by decide) ?_
  refine zr_iconst dX9_about_222 ?_
  exact zt_iret dX9_about_223 rfl W
theorem dX10_all_0 : decode cX10_all 0 = .ok (.aload_n 0, 1) := by decide +kernel
theorem dX10_all_1 : decode cX10_all 1 = .ok (.invokevirtual 327, 3) := by decide +kernel
theorem dX10_all_4 : decode cX10_all 4 = .ok (.iload_n 1, 1) := by decide +kernel
theorem dX10_all_5 : decode cX10_all 5 = .ok (.tableswitch 78 0 6 #[43, 48, 53, 58, 63, 68, 73], 43) := by decide +kernel
theorem dX10_all_48 : decode cX10_all 48 = .ok (.aload_n 0, 1) := by decide +kernel
theorem dX10_all_49 : decode cX10_all 49 = .ok (.invokevirtual 358, 3) := by decide +kernel
theorem dX10_all_52 : decode cX10_all 52 = .ok (.ireturn, 1) := by decide +kernel
theorem dX10_all_53 : decode cX10_all 53 = .ok (.aload_n 0, 1) := by decide +kernel
theorem dX10_all_54 : decode cX10_all 54 = .ok (.invokevirtual 361, 3) := by decide +kernel
theorem dX10_all_57 : decode cX10_all 57 = .ok (.ireturn, 1) := by decide +kernel
theorem dX10_all_58 : decode cX10_all 58 = .ok (.aload_n 0, 1) := by decide +kernel
theorem dX10_all_59 : decode cX10_all 59 = .ok (.invokevirtual 364, 3) := by decide +kernel
theorem dX10_all_62 : decode cX10_all 62 = .ok (.ireturn, 1) := by decide +kernel
theorem dX10_all_63 : decode cX10_all 63 = .ok (.aload_n 0, 1) := by decide +kernel
theorem dX10_all_64 : decode cX10_all 64 = .ok (.invokevirtual 367, 3) := by decide +kernel
theorem dX10_all_67 : decode cX10_all 67 = .ok (.ireturn, 1) := by decide +kernel
theorem dX10_all_68 : decode cX10_all 68 = .ok (.aload_n 0, 1) := by decide +kernel
theorem dX10_all_69 : decode cX10_all 69 = .ok (.invokevirtual 370, 3) := by decide +kernel
theorem dX10_all_72 : decode cX10_all 72 = .ok (.ireturn, 1) := by decide +kernel
theorem dX10_all_73 : decode cX10_all 73 = .ok (.aload_n 0, 1) := by decide +kernel
theorem dX10_all_74 : decode cX10_all 74 = .ok (.invokevirtual 373, 3) := by decide +kernel
theorem dX10_all_77 : decode cX10_all 77 = .ok (.ireturn, 1) := by decide +kernel
theorem dX10_all_78 : decode cX10_all 78 = .ok (.aload_n 0, 1) := by decide +kernel
theorem dX10_all_79 : decode cX10_all 79 = .ok (.invokevirtual 376, 3) := by decide +kernel
theorem dX10_all_82 : decode cX10_all 82 = .ok (.ireturn, 1) := by decide +kernel
theorem dX10_all_83 : decode cX10_all 83 = .ok (.iconst (-1), 1) := by decide +kernel
theorem dX10_all_84 : decode cX10_all 84 = .ok (.ireturn, 1) := by decide +kernel
set_option maxRecDepth 100000 in
theorem SX10_all_0 {g : zG} {o : Bool} {C R : Int} {M : zM} {q : Int → zM → Prop} {x1 : Int} (W : ∃ q1 : zM → Prop, zKv g (z2 o) mX10_goesOn [zA g 1] M q1 ∧ ∀ M3 : zM, q1 M3 → (-2147483648 ≤ x1 ∧ x1 ≤ 2147483647) ∧ (x1 = 0 → (zRf M3 C R) ∧ (rOk M3) ∧ q (smt (M3 11) (C * R).toNat) M3) ∧ (x1 = 1 → (zRf M3 C R) ∧ (rOk M3) ∧ q (mxt (M3 11) (C * R).toNat) M3) ∧ (x1 = 2 → (zRf M3 C R) ∧ (rOk M3) ∧ q (cnt (fun i => M3 11 i = 0) (C * R).toNat) M3) ∧ (x1 = 3 → (zRf M3 C R) ∧ (rOk M3) ∧ q (cnt (fun c => shd C R (M3 11) (M3 11 193) c (wnr M3 (M3 11 197))) (C * R).toNat) M3) ∧ (x1 = 4 → (zRf M3 C R) ∧ (rOk M3) ∧ q (mxt (fun c => max (adf (M3 11 c) (M3 11 (alg C R c 0 1))) (adf (M3 11 c) (M3 11 (alg C R c 1 1)))) (C * R).toNat) M3) ∧ (x1 = 5 → (zRf M3 C R) ∧ (rOk M3) ∧ q (smt (fun c => adf (M3 11 c) (M3 11 (alg C R c 0 1)) + adf (M3 11 c) (M3 11 (alg C R c 1 1))) (C * R).toNat) M3) ∧ (x1 = 6 → (zRf M3 C R) ∧ (rOk M3) ∧ q (cnt (fun c => yld C R (M3 11) (fun i => M3 11 (96 + i)) (M3 11 193) c (wnr M3 (M3 11 197))) (C * R).toNat) M3) ∧ (x1 < 0 ∨ 6 < x1 → q (-1) M3)) : zT g (z2 o) mX10_all (zQi (z2 o) q) 0 [(0, zA g 1), (1, zI x1)] [] M := by
  refine zr_aload_n 0 dX10_all_0 rfl ?_
  obtain ⟨q1, k5, W⟩ := W
  refine zt_callVv (As := []) (rest := []) dX10_all_1 kX10_all_327 rfl rfl rfl rfl (Nat.le_of_ble_eq_true rfl) k5 (fun M3 h4 => ?_)
  have W := W M3 h4
  refine zr_iload_n 1 dX10_all_4 rfl ?_
  obtain ⟨c6, W⟩ := W
  by_cases e0 : x1 = 0
  · have W := W.1 e0
    refine zr_tin (tgt := 48) dX10_all_5 c6 (by omega) (by omega) (by rw [e0]; rfl) (by decide) ?_
    refine zr_aload_n 0 dX10_all_48 rfl ?_
    obtain ⟨c7, W⟩ := W
    obtain ⟨c8, W⟩ := W
    refine zt_callVi (As := []) (rest := []) dX10_all_49 kX10_all_358 rfl rfl rfl rfl (Nat.le_of_ble_eq_true rfl) (c_slabsR c7 c8) (fun r9 N11 h10 => ?_)
    rw [h10.1, h10.2]
    exact zt_iret dX10_all_52 rfl W
  by_cases e1 : x1 = 1
  · have W := W.2.1 e1
    refine zr_tin (tgt := 53) dX10_all_5 c6 (by omega) (by omega) (by rw [e1]; rfl) (by decide) ?_
    refine zr_aload_n 0 dX10_all_53 rfl ?_
    obtain ⟨c12, W⟩ := W
    obtain ⟨c13, W⟩ := W
    refine zt_callVi (As := []) (rest := []) dX10_all_54 kX10_all_361 rfl rfl rfl rfl (Nat.le_of_ble_eq_true rfl) (c_highestR c12 c13) (fun r14 N16 h15 => ?_)
    rw [h15.1, h15.2]
    exact zt_iret dX10_all_57 rfl W
  by_cases e2 : x1 = 2
  · have W := W.2.2.1 e2
    refine zr_tin (tgt := 58) dX10_all_5 c6 (by omega) (by omega) (by rw [e2]; rfl) (by decide) ?_
    refine zr_aload_n 0 dX10_all_58 rfl ?_
    obtain ⟨c17, W⟩ := W
    obtain ⟨c18, W⟩ := W
    refine zt_callVi (As := []) (rest := []) dX10_all_59 kX10_all_364 rfl rfl rfl rfl (Nat.le_of_ble_eq_true rfl) (c_bareR c17 c18) (fun r19 N21 h20 => ?_)
    rw [h20.1, h20.2]
    exact zt_iret dX10_all_62 rfl W
  by_cases e3 : x1 = 3
  · have W := W.2.2.2.1 e3
    refine zr_tin (tgt := 63) dX10_all_5 c6 (by omega) (by omega) (by rw [e3]; rfl) (by decide) ?_
    refine zr_aload_n 0 dX10_all_63 rfl ?_
    obtain ⟨c22, W⟩ := W
    obtain ⟨c23, W⟩ := W
    refine zt_callVi (As := []) (rest := []) dX10_all_64 kX10_all_367 rfl rfl rfl rfl (Nat.le_of_ble_eq_true rfl) (c_shadows c22 c23) (fun r24 N26 h25 => ?_)
    rw [h25.1, h25.2]
    exact zt_iret dX10_all_67 rfl W
  by_cases e4 : x1 = 4
  · have W := W.2.2.2.2.1 e4
    refine zr_tin (tgt := 68) dX10_all_5 c6 (by omega) (by omega) (by rw [e4]; rfl) (by decide) ?_
    refine zr_aload_n 0 dX10_all_68 rfl ?_
    obtain ⟨c27, W⟩ := W
    obtain ⟨c28, W⟩ := W
    refine zt_callVi (As := []) (rest := []) dX10_all_69 kX10_all_370 rfl rfl rfl rfl (Nat.le_of_ble_eq_true rfl) (c_steepest c27 c28) (fun r29 N31 h30 => ?_)
    rw [h30.1, h30.2]
    exact zt_iret dX10_all_72 rfl W
  by_cases e5 : x1 = 5
  · have W := W.2.2.2.2.2.1 e5
    refine zr_tin (tgt := 73) dX10_all_5 c6 (by omega) (by omega) (by rw [e5]; rfl) (by decide) ?_
    refine zr_aload_n 0 dX10_all_73 rfl ?_
    obtain ⟨c32, W⟩ := W
    obtain ⟨c33, W⟩ := W
    refine zt_callVi (As := []) (rest := []) dX10_all_74 kX10_all_373 rfl rfl rfl rfl (Nat.le_of_ble_eq_true rfl) (c_rough c32 c33) (fun r34 N36 h35 => ?_)
    rw [h35.1, h35.2]
    exact zt_iret dX10_all_77 rfl W
  by_cases e6 : x1 = 6
  · have W := W.2.2.2.2.2.2.1 e6
    refine zr_tin (tgt := 78) dX10_all_5 c6 (by omega) (by omega) (by rw [e6]; rfl) (by decide) ?_
    refine zr_aload_n 0 dX10_all_78 rfl ?_
    obtain ⟨c37, W⟩ := W
    obtain ⟨c38, W⟩ := W
    refine zt_callVi (As := []) (rest := []) dX10_all_79 kX10_all_376 rfl rfl rfl rfl (Nat.le_of_ble_eq_true rfl) (c_givers c37 c38) (fun r39 N41 h40 => ?_)
    rw [h40.1, h40.2]
    exact zt_iret dX10_all_82 rfl W
  have W := W.2.2.2.2.2.2.2 (by omega)
  refine zr_tout (tgt := 83) dX10_all_5 c6 (by omega) (by decide) ?_
  refine zr_iconst dX10_all_83 ?_
  exact zt_iret dX10_all_84 rfl W
theorem dX10_cell_0 : decode cX10_cell 0 = .ok (.aload_n 0, 1) := by decide +kernel
theorem dX10_cell_1 : decode cX10_cell 1 = .ok (.iload_n 1, 1) := by decide +kernel
theorem dX10_cell_2 : decode cX10_cell 2 = .ok (.invokevirtual 336, 3) := by decide +kernel
theorem dX10_cell_5 : decode cX10_cell 5 = .ok (.ifCond .ne 5, 3) := by decide +kernel
theorem dX10_cell_8 : decode cX10_cell 8 = .ok (.iconst (-1), 1) := by decide +kernel
theorem dX10_cell_9 : decode cX10_cell 9 = .ok (.ireturn, 1) := by decide +kernel
theorem dX10_cell_10 : decode cX10_cell 10 = .ok (.aload_n 0, 1) := by decide +kernel
theorem dX10_cell_11 : decode cX10_cell 11 = .ok (.invokevirtual 327, 3) := by decide +kernel
theorem dX10_cell_14 : decode cX10_cell 14 = .ok (.iload_n 2, 1) := by decide +kernel
theorem dX10_cell_15 : decode cX10_cell 15 = .ok (.tableswitch 85 0 4 #[33, 40, 49, 59, 76], 33) := by decide +kernel
theorem dX10_cell_48 : decode cX10_cell 48 = .ok (.aload_n 0, 1) := by decide +kernel
theorem dX10_cell_49 : decode cX10_cell 49 = .ok (.getfield 45, 3) := by decide +kernel
theorem dX10_cell_52 : decode cX10_cell 52 = .ok (.iload_n 1, 1) := by decide +kernel
theorem dX10_cell_53 : decode cX10_cell 53 = .ok (.iaload, 1) := by decide +kernel
theorem dX10_cell_54 : decode cX10_cell 54 = .ok (.ireturn, 1) := by decide +kernel
theorem dX10_cell_55 : decode cX10_cell 55 = .ok (.aload_n 0, 1) := by decide +kernel
theorem dX10_cell_56 : decode cX10_cell 56 = .ok (.iload_n 1, 1) := by decide +kernel
theorem dX10_cell_57 : decode cX10_cell 57 = .ok (.invokevirtual 286, 3) := by decide +kernel
theorem dX10_cell_60 : decode cX10_cell 60 = .ok (.invokestatic 317, 3) := by decide +kernel
theorem dX10_cell_63 : decode cX10_cell 63 = .ok (.ireturn, 1) := by decide +kernel
theorem dX10_cell_64 : decode cX10_cell 64 = .ok (.aload_n 0, 1) := by decide +kernel
theorem dX10_cell_65 : decode cX10_cell 65 = .ok (.getfield 45, 3) := by decide +kernel
theorem dX10_cell_68 : decode cX10_cell 68 = .ok (.bipush 96, 2) := by decide +kernel
theorem dX10_cell_70 : decode cX10_cell 70 = .ok (.iload_n 1, 1) := by decide +kernel
theorem dX10_cell_71 : decode cX10_cell 71 = .ok (.iadd, 1) := by decide +kernel
theorem dX10_cell_72 : decode cX10_cell 72 = .ok (.iaload, 1) := by decide +kernel
theorem dX10_cell_73 : decode cX10_cell 73 = .ok (.ireturn, 1) := by decide +kernel
theorem dX10_cell_74 : decode cX10_cell 74 = .ok (.iconst 0, 1) := by decide +kernel
theorem dX10_cell_75 : decode cX10_cell 75 = .ok (.aload_n 0, 1) := by decide +kernel
theorem dX10_cell_76 : decode cX10_cell 76 = .ok (.getfield 45, 3) := by decide +kernel
theorem dX10_cell_79 : decode cX10_cell 79 = .ok (.iload_n 1, 1) := by decide +kernel
theorem dX10_cell_80 : decode cX10_cell 80 = .ok (.iaload, 1) := by decide +kernel
theorem dX10_cell_81 : decode cX10_cell 81 = .ok (.aload_n 0, 1) := by decide +kernel
theorem dX10_cell_82 : decode cX10_cell 82 = .ok (.iload_n 1, 1) := by decide +kernel
theorem dX10_cell_83 : decode cX10_cell 83 = .ok (.invokevirtual 346, 3) := by decide +kernel
theorem dX10_cell_86 : decode cX10_cell 86 = .ok (.isub, 1) := by decide +kernel
theorem dX10_cell_87 : decode cX10_cell 87 = .ok (.invokestatic 349, 3) := by decide +kernel
theorem dX10_cell_90 : decode cX10_cell 90 = .ok (.ireturn, 1) := by decide +kernel
theorem dX10_cell_91 : decode cX10_cell 91 = .ok (.aload_n 0, 1) := by decide +kernel
theorem dX10_cell_92 : decode cX10_cell 92 = .ok (.iload_n 1, 1) := by decide +kernel
theorem dX10_cell_93 : decode cX10_cell 93 = .ok (.invokevirtual 352, 3) := by decide +kernel
theorem dX10_cell_96 : decode cX10_cell 96 = .ok (.invokestatic 317, 3) := by decide +kernel
theorem dX10_cell_99 : decode cX10_cell 99 = .ok (.ireturn, 1) := by decide +kernel
theorem dX10_cell_100 : decode cX10_cell 100 = .ok (.iconst (-1), 1) := by decide +kernel
theorem dX10_cell_101 : decode cX10_cell 101 = .ok (.ireturn, 1) := by decide +kernel
set_option maxRecDepth 100000 in
theorem SX10_cell_0 {g : zG} {o : Bool} {C R : Int} {M : zM} {q : Int → zM → Prop} {x1 x2 : Int} (W : (zRf M C R) ∧ (-2147483648 ≤ x1 ∧ x1 ≤ 2147483647) ∧ ((0 ≤ x1 ∧ x1 < C * R) → ∃ q6 : zM → Prop, zKv g (z2 o) mX10_goesOn [zA g 1] M q6 ∧ ∀ M8 : zM, q6 M8 → (-2147483648 ≤ x2 ∧ x2 ≤ 2147483647) ∧ (x2 = 0 → (0 ≤ x1 ∧ x1 < 198) ∧ q (M8 11 x1) M8) ∧ (x2 = 1 → (zRf M8 C R) ∧ (0 ≤ x1 ∧ x1 < C * R) ∧ (0 ≤ M8 11 197 ∧ M8 11 197 ≤ 2147483647) ∧ (Bd (M8 11)) ∧ (0 ≤ M8 11 193 ∧ M8 11 193 ≤ 9) ∧ q (zb (shd C R (M8 11) (M8 11 193) x1 (wnr M8 (M8 11 197)))) M8) ∧ (x2 = 2 → (0 ≤ (96 + x1) ∧ (96 + x1) < 198) ∧ q (M8 11 (96 + x1)) M8) ∧ (x2 = 3 → (0 ≤ x1 ∧ x1 < 198) ∧ (zRf M8 C R) ∧ (rOk M8) ∧ (0 ≤ x1 ∧ x1 < C * R) ∧ (-2147483648 ≤ ((M8 11 x1) - (M8 11 (alg C R x1 (pmn C R (M8 11) x1 3) 1))) ∧ ((M8 11 x1) - (M8 11 (alg C R x1 (pmn C R (M8 11) x1 3) 1))) ≤ 2147483647) ∧ q (max 0 ((M8 11 x1) - (M8 11 (alg C R x1 (pmn C R (M8 11) x1 3) 1)))) M8) ∧ (x2 = 4 → (zRf M8 C R) ∧ (rOk M8) ∧ (0 ≤ x1 ∧ x1 < C * R) ∧ q (zb (crest C R (M8 11) x1 (wnr M8 (M8 11 197)))) M8) ∧ (x2 < 0 ∨ 4 < x2 → q (-1) M8)) ∧ ((¬ (0 ≤ x1 ∧ x1 < C * R)) → q (-1) M)) : zT g (z2 o) mX10_cell (zQi (z2 o) q) 0 [(0, zA g 1), (1, zI x1), (2, zI x2)] [] M := by
  refine zr_aload_n 0 dX10_cell_0 rfl ?_
  refine zr_iload_n 1 dX10_cell_1 rfl ?_
  obtain ⟨c1, W⟩ := W
  obtain ⟨c2, W⟩ := W
  refine zt_callVi (As := [zI x1]) (rest := []) dX10_cell_2 kX10_cell_336 rfl rfl rfl rfl (Nat.le_of_ble_eq_true rfl) (c_isCell c1 c2) (fun r3 N5 h4 => ?_)
  rw [h4.1, h4.2]
  refine zt_ifne_b (tgt := 10) dX10_cell_5 (by decide) (fun h => ?_) (fun h => ?_)
  · have W := W.1 h
    refine zr_aload_n 0 dX10_cell_10 rfl ?_
    obtain ⟨q6, k10, W⟩ := W
    refine zt_callVv (As := []) (rest := []) dX10_cell_11 kX10_cell_327 rfl rfl rfl rfl (Nat.le_of_ble_eq_true rfl) k10 (fun M8 h9 => ?_)
    have W := W M8 h9
    refine zr_iload_n 2 dX10_cell_14 rfl ?_
    obtain ⟨c11, W⟩ := W
    by_cases e0 : x2 = 0
    · have W := W.1 e0
      refine zr_tin (tgt := 48) dX10_cell_15 c11 (by omega) (by omega) (by rw [e0]; rfl) (by decide) ?_
      refine zr_aload_n 0 dX10_cell_48 rfl ?_
      refine zr_getr (b := 11) dX10_cell_49 fX10_45 rfl rfl rfl (by decide) ?_
      refine zr_iload_n 1 dX10_cell_52 rfl ?_
      obtain ⟨c12, W⟩ := W
      refine zr_iald dX10_cell_53 rfl (by decide) c12 ?_
      exact zt_iret dX10_cell_54 rfl W
    by_cases e1 : x2 = 1
    · have W := W.2.1 e1
      refine zr_tin (tgt := 55) dX10_cell_15 c11 (by omega) (by omega) (by rw [e1]; rfl) (by decide) ?_
      refine zr_aload_n 0 dX10_cell_55 rfl ?_
      refine zr_iload_n 1 dX10_cell_56 rfl ?_
      obtain ⟨c13, W⟩ := W
      obtain ⟨c14, W⟩ := W
      obtain ⟨c15, W⟩ := W
      obtain ⟨c16, W⟩ := W
      obtain ⟨c17, W⟩ := W
      refine zt_callVi (As := [zI x1]) (rest := []) dX10_cell_57 kX10_cell_286 rfl rfl rfl rfl (Nat.le_of_ble_eq_true rfl) (c_isShadow c13 c14 c15 c16 c17) (fun r18 N20 h19 => ?_)
      rw [h19.1, h19.2]
      refine zt_callSi (As := [zI (zb (shd C R (M8 11) (M8 11 193) x1 (wnr M8 (M8 11 197))))]) (rest := []) dX10_cell_60 kX10_cell_317 rfl rfl (Nat.le_of_ble_eq_true rfl) (c_truth _) (fun r21 N23 h22 => ?_)
      rw [h22.1, h22.2]
      exact zt_iret dX10_cell_63 rfl W
    by_cases e2 : x2 = 2
    · have W := W.2.2.1 e2
      refine zr_tin (tgt := 64) dX10_cell_15 c11 (by omega) (by omega) (by rw [e2]; rfl) (by decide) ?_
      refine zr_aload_n 0 dX10_cell_64 rfl ?_
      refine zr_getr (b := 11) dX10_cell_65 fX10_45 rfl rfl rfl (by decide) ?_
      refine zr_bipush dX10_cell_68 (by decide) ?_
      refine zr_iload_n 1 dX10_cell_70 rfl ?_
      refine zr_iadd dX10_cell_71 ?_
      obtain ⟨c24, W⟩ := W
      refine zr_iald dX10_cell_72 rfl (by decide) c24 ?_
      exact zt_iret dX10_cell_73 rfl W
    by_cases e3 : x2 = 3
    · have W := W.2.2.2.1 e3
      refine zr_tin (tgt := 74) dX10_cell_15 c11 (by omega) (by omega) (by rw [e3]; rfl) (by decide) ?_
      refine zr_iconst dX10_cell_74 ?_
      refine zr_aload_n 0 dX10_cell_75 rfl ?_
      refine zr_getr (b := 11) dX10_cell_76 fX10_45 rfl rfl rfl (by decide) ?_
      refine zr_iload_n 1 dX10_cell_79 rfl ?_
      obtain ⟨c25, W⟩ := W
      refine zr_iald dX10_cell_80 rfl (by decide) c25 ?_
      refine zr_aload_n 0 dX10_cell_81 rfl ?_
      refine zr_iload_n 1 dX10_cell_82 rfl ?_
      obtain ⟨c26, W⟩ := W
      obtain ⟨c27, W⟩ := W
      obtain ⟨c28, W⟩ := W
      refine zt_callVi (As := [zI x1]) (rest := [zI (M8 11 x1), zI 0]) dX10_cell_83 kX10_cell_346 rfl rfl rfl rfl (Nat.le_of_ble_eq_true rfl) (c_lowestBeside c26 c27 c28) (fun r29 N31 h30 => ?_)
      rw [h30.1, h30.2]
      refine zr_isub dX10_cell_86 ?_
      obtain ⟨c32, W⟩ := W
      refine zt_callSi (As := [zI 0, zI ((M8 11 x1) - (M8 11 (alg C R x1 (pmn C R (M8 11) x1 3) 1)))]) (rest := []) dX10_cell_87 kX10_cell_349 rfl rfl (Nat.le_of_ble_eq_true rfl) (c_greater ⟨by decide, by decide⟩ c32) (fun r33 N35 h34 => ?_)
      rw [h34.1, h34.2]
      exact zt_iret dX10_cell_90 rfl W
    by_cases e4 : x2 = 4
    · have W := W.2.2.2.2.1 e4
      refine zr_tin (tgt := 91) dX10_cell_15 c11 (by omega) (by omega) (by rw [e4]; rfl) (by decide) ?_
      refine zr_aload_n 0 dX10_cell_91 rfl ?_
      refine zr_iload_n 1 dX10_cell_92 rfl ?_
      obtain ⟨c36, W⟩ := W
      obtain ⟨c37, W⟩ := W
      obtain ⟨c38, W⟩ := W
      refine zt_callVi (As := [zI x1]) (rest := []) dX10_cell_93 kX10_cell_352 rfl rfl rfl rfl (Nat.le_of_ble_eq_true rfl) (c_isCrest c36 c37 c38) (fun r39 N41 h40 => ?_)
      rw [h40.1, h40.2]
      refine zt_callSi (As := [zI (zb (crest C R (M8 11) x1 (wnr M8 (M8 11 197))))]) (rest := []) dX10_cell_96 kX10_cell_317 rfl rfl (Nat.le_of_ble_eq_true rfl) (c_truth _) (fun r42 N44 h43 => ?_)
      rw [h43.1, h43.2]
      exact zt_iret dX10_cell_99 rfl W
    have W := W.2.2.2.2.2 (by omega)
    refine zr_tout (tgt := 100) dX10_cell_15 c11 (by omega) (by decide) ?_
    refine zr_iconst dX10_cell_100 ?_
    exact zt_iret dX10_cell_101 rfl W
  · have W := W.2 h
    refine zr_iconst dX10_cell_8 ?_
    exact zt_iret dX10_cell_9 rfl W
theorem dX10_about_0 : decode cX10_about 0 = .ok (.iload_n 1, 1) := by decide +kernel
theorem dX10_about_1 : decode cX10_about 1 = .ok (.tableswitch 194 0 16 #[83, 88, 93, 98, 107, 116, 125, 134, 141, 150, 159, 164, 169, 174, 179, 184, 189], 83) := by decide +kernel
theorem dX10_about_84 : decode cX10_about 84 = .ok (.aload_n 0, 1) := by decide +kernel
theorem dX10_about_85 : decode cX10_about 85 = .ok (.invokevirtual 255, 3) := by decide +kernel
theorem dX10_about_88 : decode cX10_about 88 = .ok (.ireturn, 1) := by decide +kernel
theorem dX10_about_89 : decode cX10_about 89 = .ok (.aload_n 0, 1) := by decide +kernel
theorem dX10_about_90 : decode cX10_about 90 = .ok (.invokevirtual 258, 3) := by decide +kernel
theorem dX10_about_93 : decode cX10_about 93 = .ok (.ireturn, 1) := by decide +kernel
theorem dX10_about_94 : decode cX10_about 94 = .ok (.aload_n 0, 1) := by decide +kernel
theorem dX10_about_95 : decode cX10_about 95 = .ok (.invokevirtual 226, 3) := by decide +kernel
theorem dX10_about_98 : decode cX10_about 98 = .ok (.ireturn, 1) := by decide +kernel
theorem dX10_about_99 : decode cX10_about 99 = .ok (.aload_n 0, 1) := by decide +kernel
theorem dX10_about_100 : decode cX10_about 100 = .ok (.getfield 42, 3) := by decide +kernel
theorem dX10_about_103 : decode cX10_about 103 = .ok (.sipush 196, 3) := by decide +kernel
theorem dX10_about_106 : decode cX10_about 106 = .ok (.iaload, 1) := by decide +kernel
theorem dX10_about_107 : decode cX10_about 107 = .ok (.ireturn, 1) := by decide +kernel
theorem dX10_about_108 : decode cX10_about 108 = .ok (.aload_n 0, 1) := by decide +kernel
theorem dX10_about_109 : decode cX10_about 109 = .ok (.getfield 42, 3) := by decide +kernel
theorem dX10_about_112 : decode cX10_about 112 = .ok (.sipush 197, 3) := by decide +kernel
theorem dX10_about_115 : decode cX10_about 115 = .ok (.iaload, 1) := by decide +kernel
theorem dX10_about_116 : decode cX10_about 116 = .ok (.ireturn, 1) := by decide +kernel
theorem dX10_about_117 : decode cX10_about 117 = .ok (.aload_n 0, 1) := by decide +kernel
theorem dX10_about_118 : decode cX10_about 118 = .ok (.getfield 42, 3) := by decide +kernel
theorem dX10_about_121 : decode cX10_about 121 = .ok (.sipush 192, 3) := by decide +kernel
theorem dX10_about_124 : decode cX10_about 124 = .ok (.iaload, 1) := by decide +kernel
theorem dX10_about_125 : decode cX10_about 125 = .ok (.ireturn, 1) := by decide +kernel
theorem dX10_about_126 : decode cX10_about 126 = .ok (.aload_n 0, 1) := by decide +kernel
theorem dX10_about_127 : decode cX10_about 127 = .ok (.getfield 42, 3) := by decide +kernel
theorem dX10_about_130 : decode cX10_about 130 = .ok (.sipush 193, 3) := by decide +kernel
theorem dX10_about_133 : decode cX10_about 133 = .ok (.iaload, 1) := by decide +kernel
theorem dX10_about_134 : decode cX10_about 134 = .ok (.ireturn, 1) := by decide +kernel
theorem dX10_about_135 : decode cX10_about 135 = .ok (.aload_n 0, 1) := by decide +kernel
theorem dX10_about_136 : decode cX10_about 136 = .ok (.getfield 20, 3) := by decide +kernel
theorem dX10_about_139 : decode cX10_about 139 = .ok (.iconst 5, 1) := by decide +kernel
theorem dX10_about_140 : decode cX10_about 140 = .ok (.iaload, 1) := by decide +kernel
theorem dX10_about_141 : decode cX10_about 141 = .ok (.ireturn, 1) := by decide +kernel
theorem dX10_about_142 : decode cX10_about 142 = .ok (.aload_n 0, 1) := by decide +kernel
theorem dX10_about_143 : decode cX10_about 143 = .ok (.getfield 42, 3) := by decide +kernel
theorem dX10_about_146 : decode cX10_about 146 = .ok (.sipush 194, 3) := by decide +kernel
theorem dX10_about_149 : decode cX10_about 149 = .ok (.iaload, 1) := by decide +kernel
theorem dX10_about_150 : decode cX10_about 150 = .ok (.ireturn, 1) := by decide +kernel
theorem dX10_about_151 : decode cX10_about 151 = .ok (.aload_n 0, 1) := by decide +kernel
theorem dX10_about_152 : decode cX10_about 152 = .ok (.getfield 42, 3) := by decide +kernel
theorem dX10_about_155 : decode cX10_about 155 = .ok (.sipush 195, 3) := by decide +kernel
theorem dX10_about_158 : decode cX10_about 158 = .ok (.iaload, 1) := by decide +kernel
theorem dX10_about_159 : decode cX10_about 159 = .ok (.ireturn, 1) := by decide +kernel
theorem dX10_about_160 : decode cX10_about 160 = .ok (.aload_n 0, 1) := by decide +kernel
theorem dX10_about_161 : decode cX10_about 161 = .ok (.invokevirtual 339, 3) := by decide +kernel
theorem dX10_about_164 : decode cX10_about 164 = .ok (.ireturn, 1) := by decide +kernel
theorem dX10_about_165 : decode cX10_about 165 = .ok (.aload_n 0, 1) := by decide +kernel
theorem dX10_about_166 : decode cX10_about 166 = .ok (.invokevirtual 463, 3) := by decide +kernel
theorem dX10_about_169 : decode cX10_about 169 = .ok (.ireturn, 1) := by decide +kernel
theorem dX10_about_170 : decode cX10_about 170 = .ok (.aload_n 0, 1) := by decide +kernel
theorem dX10_about_171 : decode cX10_about 171 = .ok (.getfield 235, 3) := by decide +kernel
theorem dX10_about_174 : decode cX10_about 174 = .ok (.ireturn, 1) := by decide +kernel
theorem dX10_about_175 : decode cX10_about 175 = .ok (.aload_n 0, 1) := by decide +kernel
theorem dX10_about_176 : decode cX10_about 176 = .ok (.getfield 238, 3) := by decide +kernel
theorem dX10_about_179 : decode cX10_about 179 = .ok (.ireturn, 1) := by decide +kernel
theorem dX10_about_180 : decode cX10_about 180 = .ok (.aload_n 0, 1) := by decide +kernel
theorem dX10_about_181 : decode cX10_about 181 = .ok (.getfield 241, 3) := by decide +kernel
theorem dX10_about_184 : decode cX10_about 184 = .ok (.ireturn, 1) := by decide +kernel
theorem dX10_about_185 : decode cX10_about 185 = .ok (.aload_n 0, 1) := by decide +kernel
theorem dX10_about_186 : decode cX10_about 186 = .ok (.getfield 438, 3) := by decide +kernel
theorem dX10_about_189 : decode cX10_about 189 = .ok (.ireturn, 1) := by decide +kernel
theorem dX10_about_190 : decode cX10_about 190 = .ok (.aload_n 0, 1) := by decide +kernel
theorem dX10_about_191 : decode cX10_about 191 = .ok (.getfield 99, 3) := by decide +kernel
theorem dX10_about_194 : decode cX10_about 194 = .ok (.ireturn, 1) := by decide +kernel
theorem dX10_about_195 : decode cX10_about 195 = .ok (.iconst (-1), 1) := by decide +kernel
theorem dX10_about_196 : decode cX10_about 196 = .ok (.ireturn, 1) := by decide +kernel
set_option maxRecDepth 100000 in
theorem SX10_about_0 {g : zG} {o : Bool} {C R : Int} {M : zM} {q : Int → zM → Prop} {x1 : Int} (W : (-2147483648 ≤ x1 ∧ x1 ≤ 2147483647) ∧ (x1 = 0 → (zRf M C R) ∧ q C M) ∧ (x1 = 1 → (zRf M C R) ∧ q R M) ∧ (x1 = 2 → (zRf M C R) ∧ q (C * R) M) ∧ (x1 = 3 → q (M 10 196) M) ∧ (x1 = 4 → q (M 10 197) M) ∧ (x1 = 5 → q (M 10 192) M) ∧ (x1 = 6 → q (M 10 193) M) ∧ (x1 = 7 → q (M 3 5) M) ∧ (x1 = 8 → q (M 10 194) M) ∧ (x1 = 9 → q (M 10 195) M) ∧ (x1 = 10 → (zRf M C R) ∧ q (smt (fun i => M 10 (96 + i)) (C * R).toNat) M) ∧ (x1 = 11 → (zRf M C R) ∧ q (smt (M 5) (M 3 9).toNat) M) ∧ (x1 = 12 → q (M 1 28) M) ∧ (x1 = 13 → q (M 1 29) M) ∧ (x1 = 14 → q (M 1 42) M) ∧ (x1 = 15 → q (M 1 43) M) ∧ (x1 = 16 → q (M 1 1) M) ∧ (x1 < 0 ∨ 16 < x1 → q (-1) M)) : zT g (z2 o) mX10_about (zQi (z2 o) q) 0 [(0, zA g 1), (1, zI x1)] [] M := by
  refine zr_iload_n 1 dX10_about_0 rfl ?_
  obtain ⟨c1, W⟩ := W
  by_cases e0 : x1 = 0
  · have W := W.1 e0
    refine zr_tin (tgt := 84) dX10_about_1 c1 (by omega) (by omega) (by rw [e0]; rfl) (by decide) ?_
    refine zr_aload_n 0 dX10_about_84 rfl ?_
    obtain ⟨c2, W⟩ := W
    refine zt_callVi (As := []) (rest := []) dX10_about_85 kX10_about_255 rfl rfl rfl rfl (Nat.le_of_ble_eq_true rfl) (c_columnsC c2) (fun r3 N5 h4 => ?_)
    rw [h4.1, h4.2]
    exact zt_iret dX10_about_88 rfl W
  by_cases e1 : x1 = 1
  · have W := W.2.1 e1
    refine zr_tin (tgt := 89) dX10_about_1 c1 (by omega) (by omega) (by rw [e1]; rfl) (by decide) ?_
    refine zr_aload_n 0 dX10_about_89 rfl ?_
    obtain ⟨c6, W⟩ := W
    refine zt_callVi (As := []) (rest := []) dX10_about_90 kX10_about_258 rfl rfl rfl rfl (Nat.le_of_ble_eq_true rfl) (c_rowsR c6) (fun r7 N9 h8 => ?_)
    rw [h8.1, h8.2]
    exact zt_iret dX10_about_93 rfl W
  by_cases e2 : x1 = 2
  · have W := W.2.2.1 e2
    refine zr_tin (tgt := 94) dX10_about_1 c1 (by omega) (by omega) (by rw [e2]; rfl) (by decide) ?_
    refine zr_aload_n 0 dX10_about_94 rfl ?_
    obtain ⟨c10, W⟩ := W
    refine zt_callVi (As := []) (rest := []) dX10_about_95 kX10_about_226 rfl rfl rfl rfl (Nat.le_of_ble_eq_true rfl) (c_cells c10) (fun r11 N13 h12 => ?_)
    rw [h12.1, h12.2]
    exact zt_iret dX10_about_98 rfl W
  by_cases e3 : x1 = 3
  · have W := W.2.2.2.1 e3
    refine zr_tin (tgt := 99) dX10_about_1 c1 (by omega) (by omega) (by rw [e3]; rfl) (by decide) ?_
    refine zr_aload_n 0 dX10_about_99 rfl ?_
    refine zr_getr (b := 10) dX10_about_100 fX10_42 rfl rfl rfl (by decide) ?_
    refine zr_sipush dX10_about_103 (by decide) ?_
    refine zr_iald dX10_about_106 rfl (by decide) ⟨by decide, by decide⟩ ?_
    exact zt_iret dX10_about_107 rfl W
  by_cases e4 : x1 = 4
  · have W := W.2.2.2.2.1 e4
    refine zr_tin (tgt := 108) dX10_about_1 c1 (by omega) (by omega) (by rw [e4]; rfl) (by decide) ?_
    refine zr_aload_n 0 dX10_about_108 rfl ?_
    refine zr_getr (b := 10) dX10_about_109 fX10_42 rfl rfl rfl (by decide) ?_
    refine zr_sipush dX10_about_112 (by decide) ?_
    refine zr_iald dX10_about_115 rfl (by decide) ⟨by decide, by decide⟩ ?_
    exact zt_iret dX10_about_116 rfl W
  by_cases e5 : x1 = 5
  · have W := W.2.2.2.2.2.1 e5
    refine zr_tin (tgt := 117) dX10_about_1 c1 (by omega) (by omega) (by rw [e5]; rfl) (by decide) ?_
    refine zr_aload_n 0 dX10_about_117 rfl ?_
    refine zr_getr (b := 10) dX10_about_118 fX10_42 rfl rfl rfl (by decide) ?_
    refine zr_sipush dX10_about_121 (by decide) ?_
    refine zr_iald dX10_about_124 rfl (by decide) ⟨by decide, by decide⟩ ?_
    exact zt_iret dX10_about_125 rfl W
  by_cases e6 : x1 = 6
  · have W := W.2.2.2.2.2.2.1 e6
    refine zr_tin (tgt := 126) dX10_about_1 c1 (by omega) (by omega) (by rw [e6]; rfl) (by decide) ?_
    refine zr_aload_n 0 dX10_about_126 rfl ?_
    refine zr_getr (b := 10) dX10_about_127 fX10_42 rfl rfl rfl (by decide) ?_
    refine zr_sipush dX10_about_130 (by decide) ?_
    refine zr_iald dX10_about_133 rfl (by decide) ⟨by decide, by decide⟩ ?_
    exact zt_iret dX10_about_134 rfl W
  by_cases e7 : x1 = 7
  · have W := W.2.2.2.2.2.2.2.1 e7
    refine zr_tin (tgt := 135) dX10_about_1 c1 (by omega) (by omega) (by rw [e7]; rfl) (by decide) ?_
    refine zr_aload_n 0 dX10_about_135 rfl ?_
    refine zr_getr (b := 3) dX10_about_136 fX10_20 rfl rfl rfl (by decide) ?_
    refine zr_iconst dX10_about_139 ?_
    refine zr_iald dX10_about_140 rfl (by decide) ⟨by decide, by decide⟩ ?_
    exact zt_iret dX10_about_141 rfl W
  by_cases e8 : x1 = 8
  · have W := W.2.2.2.2.2.2.2.2.1 e8
    refine zr_tin (tgt := 142) dX10_about_1 c1 (by omega) (by omega) (by rw [e8]; rfl) (by decide) ?_
    refine zr_aload_n 0 dX10_about_142 rfl ?_
    refine zr_getr (b := 10) dX10_about_143 fX10_42 rfl rfl rfl (by decide) ?_
    refine zr_sipush dX10_about_146 (by decide) ?_
    refine zr_iald dX10_about_149 rfl (by decide) ⟨by decide, by decide⟩ ?_
    exact zt_iret dX10_about_150 rfl W
  by_cases e9 : x1 = 9
  · have W := W.2.2.2.2.2.2.2.2.2.1 e9
    refine zr_tin (tgt := 151) dX10_about_1 c1 (by omega) (by omega) (by rw [e9]; rfl) (by decide) ?_
    refine zr_aload_n 0 dX10_about_151 rfl ?_
    refine zr_getr (b := 10) dX10_about_152 fX10_42 rfl rfl rfl (by decide) ?_
    refine zr_sipush dX10_about_155 (by decide) ?_
    refine zr_iald dX10_about_158 rfl (by decide) ⟨by decide, by decide⟩ ?_
    exact zt_iret dX10_about_159 rfl W
  by_cases e10 : x1 = 10
  · have W := W.2.2.2.2.2.2.2.2.2.2.1 e10
    refine zr_tin (tgt := 160) dX10_about_1 c1 (by omega) (by omega) (by rw [e10]; rfl) (by decide) ?_
    refine zr_aload_n 0 dX10_about_160 rfl ?_
    obtain ⟨c14, W⟩ := W
    refine zt_callVi (As := []) (rest := []) dX10_about_161 kX10_about_339 rfl rfl rfl rfl (Nat.le_of_ble_eq_true rfl) (c_sownMany c14) (fun r15 N17 h16 => ?_)
    rw [h16.1, h16.2]
    exact zt_iret dX10_about_164 rfl W
  by_cases e11 : x1 = 11
  · have W := W.2.2.2.2.2.2.2.2.2.2.2.1 e11
    refine zr_tin (tgt := 165) dX10_about_1 c1 (by omega) (by omega) (by rw [e11]; rfl) (by decide) ?_
    refine zr_aload_n 0 dX10_about_165 rfl ?_
    obtain ⟨c18, W⟩ := W
    refine zt_callVi (As := []) (rest := []) dX10_about_166 kX10_about_463 rfl rfl rfl rfl (Nat.le_of_ble_eq_true rfl) (c_roundTries c18) (fun r19 N21 h20 => ?_)
    rw [h20.1, h20.2]
    exact zt_iret dX10_about_169 rfl W
  by_cases e12 : x1 = 12
  · have W := W.2.2.2.2.2.2.2.2.2.2.2.2.1 e12
    refine zr_tin (tgt := 170) dX10_about_1 c1 (by omega) (by omega) (by rw [e12]; rfl) (by decide) ?_
    refine zr_aload_n 0 dX10_about_170 rfl ?_
    refine zt_geti 28 rfl dX10_about_171 fX10_235 rfl (by decide) ?_
    exact zt_iret dX10_about_174 rfl W
  by_cases e13 : x1 = 13
  · have W := W.2.2.2.2.2.2.2.2.2.2.2.2.2.1 e13
    refine zr_tin (tgt := 175) dX10_about_1 c1 (by omega) (by omega) (by rw [e13]; rfl) (by decide) ?_
    refine zr_aload_n 0 dX10_about_175 rfl ?_
    refine zt_geti 29 rfl dX10_about_176 fX10_238 rfl (by decide) ?_
    exact zt_iret dX10_about_179 rfl W
  by_cases e14 : x1 = 14
  · have W := W.2.2.2.2.2.2.2.2.2.2.2.2.2.2.1 e14
    refine zr_tin (tgt := 180) dX10_about_1 c1 (by omega) (by omega) (by rw [e14]; rfl) (by decide) ?_
    refine zr_aload_n 0 dX10_about_180 rfl ?_
    refine zt_geti 42 rfl dX10_about_181 fX10_241 rfl (by decide) ?_
    exact zt_iret dX10_about_184 rfl W
  by_cases e15 : x1 = 15
  · have W := W.2.2.2.2.2.2.2.2.2.2.2.2.2.2.2.1 e15
    refine zr_tin (tgt := 185) dX10_about_1 c1 (by omega) (by omega) (by rw [e15]; rfl) (by decide) ?_
    refine zr_aload_n 0 dX10_about_185 rfl ?_
    refine zt_geti 43 rfl dX10_about_186 fX10_438 rfl (by decide) ?_
    exact zt_iret dX10_about_189 rfl W
  by_cases e16 : x1 = 16
  · have W := W.2.2.2.2.2.2.2.2.2.2.2.2.2.2.2.2.1 e16
    refine zr_tin (tgt := 190) dX10_about_1 c1 (by omega) (by omega) (by rw [e16]; rfl) (by decide) ?_
    refine zr_aload_n 0 dX10_about_190 rfl ?_
    refine zt_geti 1 rfl dX10_about_191 fX10_99 rfl (by decide) ?_
    exact zt_iret dX10_about_194 rfl W
  have W := W.2.2.2.2.2.2.2.2.2.2.2.2.2.2.2.2.2 (by omega)
  refine zr_tout (tgt := 195) dX10_about_1 c1 (by omega) (by decide) ?_
  refine zr_iconst dX10_about_195 ?_
  exact zt_iret dX10_about_196 rfl W
