def BdB (B : Int) (H : Int → Int) : Prop := ∀ i : Int, 0 ≤ i → i < 96 → 0 ≤ H i ∧ H i ≤ B
theorem up_at (H : Int → Int) (i x : Int) : up H i x i = x := if_pos rfl
theorem up_ne {H : Int → Int} {i x j : Int} (h : j ≠ i) : up H i x j = H j := if_neg h
theorem sld_f {H : Int → Int} {f t : Int} (h : f ≠ t) : sld H f t f = H f - 1 := by unfold sld; rw [up_ne h, up_at]
theorem sld_t {H : Int → Int} {f t : Int} (h : f ≠ t) : sld H f t t = H t + 1 := by unfold sld; rw [up_at, up_ne (fun e => h e.symm)]
theorem sld_o {H : Int → Int} {f t j : Int} (h1 : j ≠ f) (h2 : j ≠ t) : sld H f t j = H j := by unfold sld; rw [up_ne h2, up_ne h1]
theorem cnt_le {P P' : Int → Prop} {n : Nat} (h : ∀ i : Int, 0 ≤ i → i < n → P' i → P i) : cnt P' n ≤ cnt P n := by
  induction n with
  | zero => exact Int.le_refl 0
  | succ n ih =>
    have h1 := ih (fun i h0 h1 => h i h0 (by omega))
    show cnt P' n + zb (P' n) ≤ cnt P n + zb (P n)
    by_cases hp : P' n
    · rw [zb_t hp, zb_t (h n (by omega) (by omega) hp)]; omega
    · rw [zb_f hp]; have := zb01 (P n); omega
theorem cnt_lt {P P' : Int → Prop} {n : Nat} (h : ∀ i : Int, 0 ≤ i → i < n → P' i → P i) {j : Int} (hj : 0 ≤ j ∧ j < n) (hp : P j) (hn : ¬ P' j) : cnt P' n + 1 ≤ cnt P n := by
  induction n with
  | zero => omega
  | succ n ih =>
    show cnt P' n + zb (P' n) + 1 ≤ cnt P n + zb (P n)
    by_cases hjn : j = n
    · subst hjn
      have h1 := cnt_le (n := n) (fun i h0 h1 => h i h0 (by omega))
      rw [zb_t hp, zb_f hn]; omega
    · have h1 := ih (fun i h0 h1 => h i h0 (by omega)) (by omega)
      by_cases hp : P' n
      · rw [zb_t hp, zb_t (h n (by omega) (by omega) hp)]; omega
      · rw [zb_f hp]; have := zb01 (P n); omega
section PW
variable {C R S c m : Int} {H : Int → Int}
theorem pku_spec (n : Nat) : ((pku C R H m c n).2 = -1 ∧ (pku C R H m c n).1 = m ∧ ∀ i : Nat, i < n → H (alg C R c i 1) ≤ m) ∨ ∃ k : Nat, k < n ∧ (pku C R H m c n).2 = k ∧ (pku C R H m c n).1 = H (alg C R c k 1) ∧ m < H (alg C R c k 1) ∧ ∀ i : Nat, i < n → H (alg C R c i 1) ≤ H (alg C R c k 1) := by
  induction n with
  | zero => exact Or.inl ⟨rfl, rfl, fun i h => absurd h (Nat.not_lt_zero i)⟩
  | succ n ih =>
    unfold pku
    by_cases hc : (pku C R H m c n).1 < H (alg C R c n 1)
    · rw [if_pos hc]
      refine Or.inr ⟨n, Nat.lt_succ_self n, rfl, rfl, ?_, ?_⟩
      · rcases ih with ⟨-, e, -⟩ | ⟨k, -, -, e, h, -⟩ <;> omega
      · intro i hi
        by_cases hin : i = n
        · subst hin; exact Int.le_refl _
        · rcases ih with ⟨-, e, h⟩ | ⟨k, -, -, e, -, h⟩
          · have := h i (by omega); omega
          · have := h i (by omega); omega
    · rw [if_neg hc]
      rcases ih with ⟨e1, e, h⟩ | ⟨k, hk, e1, e, h1, h⟩
      · refine Or.inl ⟨e1, e, fun i hi => ?_⟩
        by_cases hin : i = n
        · subst hin; omega
        · exact h i (by omega)
      · refine Or.inr ⟨k, by omega, e1, e, h1, fun i hi => ?_⟩
        by_cases hin : i = n
        · subst hin; omega
        · exact h i (by omega)
theorem pkd_spec (n : Nat) : ((pkd C R H m c n).2 = -1 ∧ (pkd C R H m c n).1 = m ∧ ∀ i : Nat, i < n → m ≤ H (alg C R c i 1)) ∨ ∃ k : Nat, k < n ∧ (pkd C R H m c n).2 = k ∧ (pkd C R H m c n).1 = H (alg C R c k 1) ∧ H (alg C R c k 1) < m ∧ ∀ i : Nat, i < n → H (alg C R c k 1) ≤ H (alg C R c i 1) := by
  induction n with
  | zero => exact Or.inl ⟨rfl, rfl, fun i h => absurd h (Nat.not_lt_zero i)⟩
  | succ n ih =>
    unfold pkd
    by_cases hc : H (alg C R c n 1) < (pkd C R H m c n).1
    · rw [if_pos hc]
      refine Or.inr ⟨n, Nat.lt_succ_self n, rfl, rfl, ?_, ?_⟩
      · rcases ih with ⟨-, e, -⟩ | ⟨k, -, -, e, h, -⟩ <;> omega
      · intro i hi
        by_cases hin : i = n
        · subst hin; exact Int.le_refl _
        · rcases ih with ⟨-, e, h⟩ | ⟨k, -, -, e, -, h⟩
          · have := h i (by omega); omega
          · have := h i (by omega); omega
    · rw [if_neg hc]
      rcases ih with ⟨e1, e, h⟩ | ⟨k, hk, e1, e, h1, h⟩
      · refine Or.inl ⟨e1, e, fun i hi => ?_⟩
        by_cases hin : i = n
        · subst hin; omega
        · exact h i (by omega)
      · refine Or.inr ⟨k, by omega, e1, e, h1, fun i hi => ?_⟩
        by_cases hin : i = n
        · subst hin; omega
        · exact h i (by omega)
theorem wup_spec (C R : Int) (H : Int → Int) (S c : Int) : (wup C R H S c = -1 ∧ ∀ w : Int, 0 ≤ w → w ≤ 3 → H (alg C R c w 1) ≤ H c + S) ∨ (0 ≤ wup C R H S c ∧ wup C R H S c ≤ 3 ∧ H c + S < H (alg C R c (wup C R H S c) 1)) := by
  rcases pku_spec (C := C) (R := R) (H := H) (m := H c + S) (c := c) 4 with ⟨e, -, h⟩ | ⟨k, hk, e, -, h, -⟩
  · refine Or.inl ⟨e, fun w h0 h3 => ?_⟩
    have := h w.toNat (by omega)
    rwa [Int.toNat_of_nonneg h0] at this
  · refine Or.inr ?_
    unfold wup; rw [e]; exact ⟨by omega, by omega, h⟩
theorem wdn_spec (C R : Int) (H : Int → Int) (S c : Int) : (wdn C R H S c = -1 ∧ ∀ w : Int, 0 ≤ w → w ≤ 3 → H c - S ≤ H (alg C R c w 1)) ∨ (0 ≤ wdn C R H S c ∧ wdn C R H S c ≤ 3 ∧ H (alg C R c (wdn C R H S c) 1) < H c - S) := by
  rcases pkd_spec (C := C) (R := R) (H := H) (m := H c - S) (c := c) 4 with ⟨e, -, h⟩ | ⟨k, hk, e, -, h, -⟩
  · refine Or.inl ⟨e, fun w h0 h3 => ?_⟩
    have := h w.toNat (by omega)
    rwa [Int.toNat_of_nonneg h0] at this
  · refine Or.inr ?_
    unfold wdn; rw [e]; exact ⟨by omega, by omega, h⟩
end PW
/-- FILL: at most n slides -/
def flz (C R S : Int) : Nat → Hz → Int → Hz
  | 0, z, _ => z
  | n + 1, z, c => if wup C R z.1 S c = -1 then z else flz C R S n (sldz C R z (alg C R c (wup C R z.1 S c) 1) (opp (wup C R z.1 S c))) (alg C R c (wup C R z.1 S c) 1)
/-- SPILL -/
def spz (C R S : Int) : Nat → Hz → Int → Hz
  | 0, z, _ => z
  | n + 1, z, c => if wdn C R z.1 S c = -1 then z else spz C R S n (sldz C R z c (wdn C R z.1 S c)) (alg C R c (wdn C R z.1 S c) 1)
noncomputable def muF (C R S : Int) (H : Int → Int) (c : Int) : Int := cnt (fun x => H c + S < H x) (C * R).toNat
noncomputable def muS (C R S : Int) (H : Int → Int) (c : Int) : Int := cnt (fun x => H x < H c - S) (C * R).toNat
section FS
variable {g : zG} {o : Bool} {M : zM} {C R S x c w t f B : Int} {s a b : Nat} {z z' : Hz} {H : Int → Int}
/-- one slide of a FILL -/
theorem fill_step (hG : Geo C R) (hS : 1 ≤ S) (hc : 0 ≤ c ∧ c < C * R) (hw : 0 ≤ w ∧ w ≤ 3) (hh : H c + S < H (alg C R c w 1)) :
    (0 ≤ alg C R c w 1 ∧ alg C R c w 1 < C * R) ∧ alg C R (alg C R c w 1) (opp w) 1 = c ∧ alg C R c w 1 ≠ c ∧ muF C R S (sld H (alg C R c w 1) c) (alg C R c w 1) + 1 ≤ muF C R S H c ∧ (BdB B H → BdB B (sld H (alg C R c w 1) c)) := by
  have a1 := alg_in (w := w) (k := 1) hG hc
  have a2 := alg_back hG hc hw
  have hn := geo_n hG
  have hne : alg C R c w 1 ≠ c := fun e => by rw [e] at hh; omega
  refine ⟨a1, a2, hne, ?_, fun hB i h0 h1 => ?_⟩
  · refine cnt_lt (fun i h0 h1 hi => ?_) (j := alg C R c w 1) ⟨a1.1, by omega⟩ hh ?_
    · rw [sld_f hne] at hi
      by_cases h1 : i = alg C R c w 1
      · rw [h1, sld_f hne] at hi; omega
      · by_cases h2 : i = c
        · rw [h2, sld_t hne] at hi; omega
        · rw [sld_o h1 h2] at hi; omega
    · omega
  · have b1 := hB i h0 h1
    have b2 := hB c hc.1 (by omega)
    have b3 := hB _ a1.1 (by omega)
    by_cases e1 : i = alg C R c w 1
    · rw [e1, sld_f hne]; omega
    · by_cases e2 : i = c
      · rw [e2, sld_t hne]; omega
      · rw [sld_o e1 e2]; exact b1
theorem spill_step (hG : Geo C R) (hS : 1 ≤ S) (hc : 0 ≤ c ∧ c < C * R) (hh : H (alg C R c w 1) < H c - S) :
    (0 ≤ alg C R c w 1 ∧ alg C R c w 1 < C * R) ∧ c ≠ alg C R c w 1 ∧ muS C R S (sld H c (alg C R c w 1)) (alg C R c w 1) + 1 ≤ muS C R S H c ∧ (BdB B H → BdB B (sld H c (alg C R c w 1))) := by
  have a1 := alg_in (w := w) (k := 1) hG hc
  have hn := geo_n hG
  have hne : c ≠ alg C R c w 1 := fun e => by rw [← e] at hh; omega
  refine ⟨a1, hne, ?_, fun hB i h0 h1 => ?_⟩
  · refine cnt_lt (fun i h0 h1 hi => ?_) (j := alg C R c w 1) ⟨a1.1, by omega⟩ hh ?_
    · rw [sld_t hne] at hi
      by_cases h1 : i = alg C R c w 1
      · rw [h1, sld_t hne] at hi; omega
      · by_cases h2 : i = c
        · rw [h2, sld_f hne] at hi; omega
        · rw [sld_o h2 h1] at hi; omega
    · omega
  · have b1 := hB i h0 h1
    have b2 := hB c hc.1 (by omega)
    have b3 := hB _ a1.1 (by omega)
    by_cases e1 : i = alg C R c w 1
    · rw [e1, sld_t hne]; omega
    · by_cases e2 : i = c
      · rw [e2, sld_f hne]; omega
      · rw [sld_o e2 e1]; exact b1
theorem mu_le (P : Int → Prop) (hG : Geo C R) (hc : 0 ≤ c ∧ c < C * R) (hP : ¬ P c) : cnt P (C * R).toNat < 96 := by
  have hn := geo_n hG
  have h1 := cnt_lt (P := fun _ => True) (P' := P) (n := (C * R).toNat) (fun _ _ _ _ => trivial) (j := c) ⟨hc.1, by omega⟩ trivial hP
  have h2 := cnt_in (fun _ => True) (C * R).toNat
  omega
theorem flz_bd (hG : Geo C R) (hS : 1 ≤ S) (n : Nat) (z : Hz) (c : Int) (hc : 0 ≤ c ∧ c < C * R) (hB : BdB B z.1) : BdB B (flz C R S n z c).1 := by
  induction n generalizing z c with
  | zero => exact hB
  | succ n ih =>
    unfold flz
    rcases wup_spec C R z.1 S c with ⟨e, -⟩ | ⟨h0, h3, hh⟩
    · rw [if_pos e]; exact hB
    · rw [if_neg (by omega)]
      obtain ⟨p1, p2, p3, -, p5⟩ := fill_step (B := B) hG hS hc ⟨h0, h3⟩ hh
      refine ih _ _ p1 ?_
      show BdB B (sld z.1 _ (alg C R (alg C R c (wup C R z.1 S c) 1) (opp (wup C R z.1 S c)) 1))
      rw [p2]; exact p5 hB
theorem spz_bd (hG : Geo C R) (hS : 1 ≤ S) (n : Nat) (z : Hz) (c : Int) (hc : 0 ≤ c ∧ c < C * R) (hB : BdB B z.1) : BdB B (spz C R S n z c).1 := by
  induction n generalizing z c with
  | zero => exact hB
  | succ n ih =>
    unfold spz
    rcases wdn_spec C R z.1 S c with ⟨e, -⟩ | ⟨h0, h3, hh⟩
    · rw [if_pos e]; exact hB
    · rw [if_neg (by omega)]
      obtain ⟨p1, p2, -, p5⟩ := spill_step (B := B) hG hS hc hh
      exact ih _ _ p1 (p5 hB)
theorem c_lift (ha : zSt a s) (hL : zLand M C R) (hc : 0 ≤ c ∧ c < C * R) (hB : Bd (up (M (s + 1)) c (M (s + 1) c - 1))) : zKv g (z1 o) mX7_lift [zA g a, zI c] M (fun M' => M' = zput M a s (flz C R (M 14 3) 96 (up (M (s + 1)) c (M (s + 1) c - 1), M a 4, M (a + 1)) c)) := by
  have hn := geo_n hL.1
  have hS := hL.2.2.2.2.1
  refine zkv_of rfl (Nat.le_of_ble_eq_true rfl) (SX7_lift_0 ha ⟨by omega, ?_⟩)
  rw [zu_put ha]
  suffices h : ∀ (n : Nat) (z : Hz) (c i : Int), 0 ≤ c ∧ c < C * R → Bd z.1 → i + n = 96 → 0 ≤ i → muF C R (M 14 3) z.1 c < n → zT g (z1 o) mX7_lift (zQv (z1 o) (fun M' => M' = zput M a s (flz C R (M 14 3) n z c))) 17 [(0, zA g a), (2, zI c), (3, zI i)] [] (zput M a s z) from
    h 96 _ c 0 hc hB (by omega) (by omega) (mu_le _ hL.1 hc (by dsimp only; omega))
  intro n
  induction n with
  | zero =>
    intro z c i hc hB hi h0 hmu
    have := (cnt_in (fun x => z.1 c + M 14 3 < z.1 x) (C * R).toNat).1
    unfold muF at hmu; omega
  | succ n ih =>
    intro z c i hc hB hi h0 hmu
    refine SX7_lift_17 (C := C) (R := R) ha ⟨by omega, fun h => by omega, fun h => ?_⟩
    rw [zput_h ha, zput_14 ha, zget_put ha, zput_put ha]
    rcases wup_spec C R z.1 (M 14 3) c with ⟨e, -⟩ | ⟨w0, w3, hh⟩
    · refine ⟨zput_L ha hL, hc, hB, by omega, fun h => absurd e h, fun h => ?_⟩
      show zput M a s z = zput M a s (if wup C R z.1 (M 14 3) c = -1 then z else _)
      rw [if_pos e]
    · obtain ⟨p1, p2, p3, p4, p5⟩ := fill_step (B := 1000000000) hL.1 hS.1 hc ⟨w0, w3⟩ hh
      refine ⟨zput_L ha hL, hc, hB, by omega, fun h => ⟨⟨w0, w3⟩, p1, opp_in ⟨w0, w3⟩, ?_⟩, fun h => by omega⟩
      have e : flz C R (M 14 3) (n + 1) z c = flz C R (M 14 3) n (sldz C R z (alg C R c (wup C R z.1 (M 14 3) c) 1) (opp (wup C R z.1 (M 14 3) c))) (alg C R c (wup C R z.1 (M 14 3) c) 1) := by
        show (if wup C R z.1 (M 14 3) c = -1 then z else _) = _
        rw [if_neg (by omega)]
      rw [e]
      have ez : (sldz C R z (alg C R c (wup C R z.1 (M 14 3) c) 1) (opp (wup C R z.1 (M 14 3) c))).1 = sld z.1 (alg C R c (wup C R z.1 (M 14 3) c) 1) c := by
        show sld z.1 _ (alg C R (alg C R c (wup C R z.1 (M 14 3) c) 1) (opp (wup C R z.1 (M 14 3) c)) 1) = _
        rw [p2]
      exact ih _ _ (i + 1) p1 (by rw [ez]; exact p5 hB) (by omega) (by omega) (by rw [ez]; omega)
theorem c_drop (ha : zSt a s) (hL : zLand M C R) (hc : 0 ≤ c ∧ c < C * R) (hB : Bd (up (M (s + 1)) c (M (s + 1) c + 1))) : zKv g (z1 o) mX7_drop [zA g a, zI c] M (fun M' => M' = zput M a s (spz C R (M 14 3) 96 (up (M (s + 1)) c (M (s + 1) c + 1), M a 4, M (a + 1)) c)) := by
  have hn := geo_n hL.1
  have hS := hL.2.2.2.2.1
  refine zkv_of rfl (Nat.le_of_ble_eq_true rfl) (SX7_drop_0 ha ⟨by omega, ?_⟩)
  rw [zu_put ha]
  suffices h : ∀ (n : Nat) (z : Hz) (c i : Int), 0 ≤ c ∧ c < C * R → Bd z.1 → i + n = 96 → 0 ≤ i → muS C R (M 14 3) z.1 c < n → zT g (z1 o) mX7_drop (zQv (z1 o) (fun M' => M' = zput M a s (spz C R (M 14 3) n z c))) 17 [(0, zA g a), (2, zI c), (3, zI i)] [] (zput M a s z) from
    h 96 _ c 0 hc hB (by omega) (by omega) (mu_le _ hL.1 hc (by dsimp only; omega))
  intro n
  induction n with
  | zero =>
    intro z c i hc hB hi h0 hmu
    have := (cnt_in (fun x => z.1 x < z.1 c - M 14 3) (C * R).toNat).1
    unfold muS at hmu; omega
  | succ n ih =>
    intro z c i hc hB hi h0 hmu
    refine SX7_drop_17 (C := C) (R := R) ha ⟨by omega, fun h => by omega, fun h => ?_⟩
    rw [zput_h ha, zput_14 ha, zget_put ha, zput_put ha]
    rcases wdn_spec C R z.1 (M 14 3) c with ⟨e, -⟩ | ⟨w0, w3, hh⟩
    · refine ⟨zput_L ha hL, hc, hB, by omega, fun h => absurd e h, fun h => ?_⟩
      show zput M a s z = zput M a s (if wdn C R z.1 (M 14 3) c = -1 then z else _)
      rw [if_pos e]
    · obtain ⟨p1, p3, p4, p5⟩ := spill_step (B := 1000000000) hL.1 hS.1 hc hh
      refine ⟨zput_L ha hL, hc, hB, by omega, fun h => ⟨⟨w0, w3⟩, zput_L ha hL, ?_⟩, fun h => by omega⟩
      have e : spz C R (M 14 3) (n + 1) z c = spz C R (M 14 3) n (sldz C R z c (wdn C R z.1 (M 14 3) c)) (alg C R c (wdn C R z.1 (M 14 3) c) 1) := by
        show (if wdn C R z.1 (M 14 3) c = -1 then z else _) = _
        rw [if_neg (by omega)]
      rw [e]
      exact ih _ _ (i + 1) p1 (p5 hB) (by omega) (by omega) (by show muS C R (M 14 3) (sld z.1 c _) _ < n; omega)
theorem c_yields (ha : zSt a s) (hL : zLand M C R) (hc : 0 ≤ c ∧ c < C * R) (hw : 0 ≤ w ∧ w ≤ 3) (hB : Bd (M (s + 1))) (hsh : 0 ≤ M (s + 3) 1 ∧ M (s + 3) 1 ≤ 9) (hg : 0 ≤ M (s + 2) c ∧ M (s + 2) c ≤ 1) : zKi g (z1 o) mX7_yields [zA g a, zI c, zI w] M (fun r M' => r = zb (yld C R (M (s + 1)) (M (s + 2)) (M (s + 3) 1) c w) ∧ M' = M) := by
  have hn := geo_n hL.1
  have hc0 := hB c hc.1 (by omega)
  refine zki_of rfl (Nat.le_of_ble_eq_true rfl) (SX7_yields_0 (C := C) (R := R) ha ⟨by omega, by omega, fun h => ⟨(zb_f fun q => by have := q.1; omega).symm, rfl⟩, fun h => ⟨by omega, fun h2 => ⟨(zb_f fun q => h2 q.2.1).symm, rfl⟩, fun h2 => ⟨hL, hc, hw, hB, hsh, fun h3 => ⟨(zb_f fun q => q.2.2 h3).symm, rfl⟩, fun h3 => ⟨(zb_t ⟨by omega, h2, h3⟩).symm, rfl⟩⟩⟩⟩)
/-- the lines gone through on a way of k cells -/
def hpx (C R w : Int) : Nat → Int → (Int → Int) → (Int → Int)
  | 0, _, X => X
  | k + 1, c, X => hpx C R w k (alg C R c w 1) (crs C X c (alg C R c w 1) w)
theorem c_hop (ha : zSt a s) (hL : zLand M C R) (hc : 0 ≤ c ∧ c < C * R) (hw : 0 ≤ w ∧ w ≤ 3) (hh : 1 ≤ M (s + 3) 0 ∧ M (s + 3) 0 ≤ 6) : zKi g (z1 o) mX7_hopOn [zA g a, zI c, zI w] M (fun r M' => r = alg C R c w (M (s + 3) 0) ∧ M' = zu (zrw M (a + 1) (hpx C R w (M (s + 3) 0).toNat c (M (a + 1)))) a 3 (M a 3 + 1)) := by
  have hne := zst_ne ha
  refine zki_of rfl (Nat.le_of_ble_eq_true rfl) (SX7_hopOn_0 ha ?_)
  suffices h : ∀ (n : Nat) (i : Int) (c : Int) (X : Int → Int), 0 ≤ c ∧ c < C * R → 0 ≤ i → i + n = M (s + 3) 0 → zT g (z1 o) mX7_hopOn (zQi (z1 o) (fun r M' => r = alg C R c w n ∧ M' = zu (zrw M (a + 1) (hpx C R w n c X)) a 3 (M a 3 + 1))) 5 [(0, zA g a), (2, zI w), (3, zI c), (4, zI i)] [] (zrw M (a + 1) X) by
    have hh := h (M (s + 3) 0).toNat 0 c (M (a + 1)) hc (by omega) (by omega)
    rw [zrw_self, Int.toNat_of_nonneg (by omega)] at hh
    exact hh
  intro n
  induction n with
  | zero =>
    intro i c X hc h0 hi
    refine SX7_hopOn_5 (C := C) (R := R) ha ?_
    rw [zrw_other (b := s + 3) (by omega), zrw_other (b := a) (by omega)]
    refine ⟨by omega, by omega, fun h => ⟨(alg_0 hL.1 hc).symm, rfl⟩, fun h => by omega⟩
  | succ n ih =>
    intro i c X hc h0 hi
    refine SX7_hopOn_5 (C := C) (R := R) ha ?_
    rw [zrw_other (b := s + 3) (by omega), zrw_row, zrw_zrw]
    have a1 := alg_in (w := w) (k := 1) hL.1 hc
    refine ⟨by omega, by omega, fun h => by omega, fun h => ⟨hL.of (fun b h1 h2 => zrw_other (by omega)), hc, hw, a1, ?_⟩⟩
    have hh := ih (i + 1) (alg C R c w 1) (crs C X c (alg C R c w 1) w) a1 (by omega) (by omega)
    rw [alg_s hL.1 hc, show (1 : Int) + (n : Int) = ((n + 1 : Nat) : Int) by omega] at hh
    exact hh
end FS
