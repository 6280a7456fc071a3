/-- the first cell that is too steep, from c on, of n -/
def fsp (C R S : Int) (H : Int → Int) : Nat → Int → Int
  | 0, _ => -1
  | n + 1, c => if wdn C R H S c = -1 then fsp C R S H n (c + 1) else c
/-- SETTLED by at most n slides -/
def stz (C R S : Int) : Nat → Hz → Hz
  | 0, z => z
  | n + 1, z => if fsp C R S z.1 (C * R).toNat 0 = -1 then z else stz C R S n (sldz C R z (fsp C R S z.1 (C * R).toNat 0) (wdn C R z.1 S (fsp C R S z.1 (C * R).toNat 0)))
def ssq (H : Int → Int) : Int := smt (fun i => H i * H i) 96
theorem smt_two {p q : Int → Int} {n : Nat} {f t : Int} (hf : 0 ≤ f ∧ f < n) (ht : 0 ≤ t ∧ t < n) (hne : f ≠ t) (h : ∀ i, i ≠ f → i ≠ t → p i = q i) : smt p n = smt q n + (p f - q f) + (p t - q t) := by
  have one : ∀ (p q : Int → Int) (n : Nat) (f : Int), (∀ i : Int, 0 ≤ i → i < n → i ≠ f → p i = q i) → smt p n = smt q n + (if 0 ≤ f ∧ f < n then p f - q f else 0) := by
    intro p q n f
    induction n with
    | zero => intro _; rw [if_neg (by omega)]; simp [smt]
    | succ n ih =>
      intro h
      have h1 := ih (fun i h0 h1 h2 => h i h0 (by omega) h2)
      show smt p n + p n = smt q n + q n + _
      by_cases hfn : f = n
      · subst hfn
        rw [if_pos (by omega)]
        rw [if_neg (by omega)] at h1
        omega
      · have h2 := h n (by omega) (by omega) (fun e => hfn e.symm)
        by_cases hf : 0 ≤ f ∧ f < n
        · rw [if_pos (by omega)]; rw [if_pos hf] at h1; omega
        · rw [if_neg (by omega)]; rw [if_neg hf] at h1; omega
  have h1 := one p (fun i => if i = t then p t else q i) n f (fun i _ _ h2 => by
    by_cases e : i = t
    · rw [if_pos e, e]
    · rw [if_neg e]; exact h i h2 e)
  have h2 := one (fun i => if i = t then p t else q i) q n t (fun i _ _ h2 => by rw [if_neg h2])
  rw [if_pos hf] at h1
  rw [if_pos ht] at h2
  simp only [if_true, if_neg hne] at h1 h2
  omega
theorem ssq_sld {H : Int → Int} {f t : Int} (hf : 0 ≤ f ∧ f < 96) (ht : 0 ≤ t ∧ t < 96) (h : H t + 2 ≤ H f) : ssq (sld H f t) + 2 ≤ ssq H := by
  have hne : f ≠ t := fun e => by rw [e] at h; omega
  have h1 := smt_two (p := fun i => sld H f t i * sld H f t i) (q := fun i => H i * H i) (n := 96) hf ht hne (fun i h1 h2 => by rw [sld_o h1 h2])
  rw [sld_f hne, sld_t hne] at h1
  have e1 : (H f - 1) * (H f - 1) = H f * H f - 2 * H f + 1 := by rw [Int.sub_mul, Int.mul_sub]; omega
  have e2 : (H t + 1) * (H t + 1) = H t * H t + 2 * H t + 1 := by rw [Int.add_mul, Int.mul_add]; omega
  unfold ssq
  rw [e1, e2] at h1
  omega
theorem ssq_nn (H : Int → Int) : 0 ≤ ssq H := smt_nn (fun i _ _ => by
  rcases Int.le_total 0 (H i) with h | h
  · exact Int.mul_nonneg h h
  · have := Int.mul_nonneg (show 0 ≤ -H i by omega) (show 0 ≤ -H i by omega); rw [Int.neg_mul_neg] at this; exact this)
section CW
variable {g : zG} {o : Bool} {M : zM} {C R S c w B : Int} {s a : Nat} {z : Hz} {H : Int → Int}
theorem fsp_spec (n : Nat) (c : Int) : (fsp C R S H n c = -1 ∧ ∀ i, c ≤ i → i < c + n → wdn C R H S i = -1) ∨ (c ≤ fsp C R S H n c ∧ fsp C R S H n c < c + n ∧ wdn C R H S (fsp C R S H n c) ≠ -1 ∧ ∀ i, c ≤ i → i < fsp C R S H n c → wdn C R H S i = -1) := by
  induction n generalizing c with
  | zero => exact Or.inl ⟨rfl, fun i h1 h2 => by omega⟩
  | succ n ih =>
    unfold fsp
    by_cases h : wdn C R H S c = -1
    · rw [if_pos h]
      rcases ih (c + 1) with ⟨e, h1⟩ | ⟨h1, h2, h3, h4⟩
      · refine Or.inl ⟨e, fun i i1 i2 => ?_⟩
        by_cases hi : i = c
        · rw [hi]; exact h
        · exact h1 i (by omega) (by omega)
      · refine Or.inr ⟨by omega, by omega, h3, fun i i1 i2 => ?_⟩
        by_cases hi : i = c
        · rw [hi]; exact h
        · exact h4 i (by omega) i2
    · rw [if_neg h]
      exact Or.inr ⟨Int.le_refl c, by omega, h, fun i h1 h2 => by omega⟩
theorem c_first (ha : zSt a s) (hL : zLand M C R) (hB : Bd (M (s + 1))) : zKi g (z1 o) mX7_firstSteep [zA g a] M (fun r M' => r = fsp C R (M 14 3) (M (s + 1)) (C * R).toNat 0 ∧ M' = M) := by
  have hn := geo_n hL.1
  have e14 : M 14 2 = C * R := hL.2.2.2.1
  refine zki_of rfl (Nat.le_of_ble_eq_true rfl) (SX7_firstSteep_0 ha ?_)
  suffices h : ∀ (n : Nat) (i : Int), 0 ≤ i → i + n = C * R → zT g (z1 o) mX7_firstSteep (zQi (z1 o) (fun r M' => r = fsp C R (M 14 3) (M (s + 1)) n i ∧ M' = M)) 2 [(0, zA g a), (1, zI i)] [] M from h (C * R).toNat 0 (by omega) (by omega)
  intro n
  induction n with
  | zero =>
    intro i h0 hi
    refine SX7_firstSteep_2 (C := C) (R := R) ha ?_
    rw [e14]
    exact ⟨by omega, by omega, fun h => ⟨rfl, rfl⟩, fun h => by omega⟩
  | succ n ih =>
    intro i h0 hi
    refine SX7_firstSteep_2 (C := C) (R := R) ha ?_
    rw [e14]
    have hw : -1 ≤ wdn C R (M (s + 1)) (M 14 3) i ∧ wdn C R (M (s + 1)) (M 14 3) i ≤ 3 := by rcases wdn_spec C R (M (s + 1)) (M 14 3) i with ⟨e, -⟩ | ⟨e, e2, -⟩ <;> omega
    refine ⟨by omega, by omega, fun h => by omega, fun h => ⟨hL, by omega, hB, by omega, fun h2 => ?_, fun h2 => ⟨?_, rfl⟩⟩⟩
    · have hk := ih (i + 1) (by omega) (by omega)
      have e : fsp C R (M 14 3) (M (s + 1)) (n + 1) i = fsp C R (M 14 3) (M (s + 1)) n (i + 1) := by show (if _ then _ else _) = _; rw [if_pos h2]
      rw [e]; exact hk
    · show i = (if _ then _ else _)
      rw [if_neg h2]
theorem stz_bd (hG : Geo C R) (hS : 1 ≤ S) (n : Nat) (z : Hz) (hB : BdB B z.1) : BdB B (stz C R S n z).1 := by
  have hn := geo_n hG
  induction n generalizing z with
  | zero => exact hB
  | succ n ih =>
    unfold stz
    rcases fsp_spec (C := C) (R := R) (S := S) (H := z.1) (C * R).toNat 0 with ⟨e, -⟩ | ⟨h1, h2, h3, -⟩
    · rw [if_pos e]; exact hB
    · rw [if_neg (by omega)]
      rcases wdn_spec C R z.1 S (fsp C R S z.1 (C * R).toNat 0) with ⟨e, -⟩ | ⟨w0, w3, hh⟩
      · exact absurd e h3
      · exact ih _ ((spill_step (B := B) hG hS ⟨h1, by omega⟩ hh).2.2.2 hB)
theorem c_settle (ha : zSt a s) (hL : zLand M C R) (hB : Bd (M (s + 1))) (hq : ssq (M (s + 1)) < 2000000) : zKv g (z1 o) mX7_settle [zA g a] M (fun M' => M' = zput M a s (stz C R (M 14 3) 1000000 (zget M a s))) := by
  have hn := geo_n hL.1
  have hS := hL.2.2.2.2.1
  refine zkv_of rfl (Nat.le_of_ble_eq_true rfl) (SX7_settle_0 ha ?_)
  suffices h : ∀ (n : Nat) (z : Hz) (i : Int), 0 ≤ i → i + n = 1000000 → Bd z.1 → ssq z.1 < 2 * n → zT g (z1 o) mX7_settle (zQv (z1 o) (fun M' => M' = zput M a s (stz C R (M 14 3) n z))) 2 [(0, zA g a), (1, zI i)] [] (zput M a s z) by
    have hh := h 1000000 (zget M a s) 0 (by omega) (by omega) hB (by show ssq (M (s + 1)) < _; omega)
    rw [zput_get ha] at hh
    exact hh
  intro n
  induction n with
  | zero => intro z i h0 hi hB hq; have := ssq_nn z.1; omega
  | succ n ih =>
    intro z i h0 hi hB hq
    have hL' := zput_L (z := z) ha hL
    have hf := c_first (g := g) (o := o) (M := zput M a s z) ha hL' (by rw [zput_h ha]; exact hB)
    rw [zput_h ha, zput_14 ha] at hf
    refine SX7_settle_2 (C := C) (R := R) ha ⟨by omega, fun h => by omega, fun h => ⟨_, hf, fun r3 M4 hq3 => ?_⟩⟩
    obtain ⟨q1, q2⟩ := hq3
    rw [q2, zput_h ha, zput_14 ha, zget_put ha, zput_put ha]
    rcases fsp_spec (C := C) (R := R) (S := M 14 3) (H := z.1) (C * R).toNat 0 with ⟨e, -⟩ | ⟨h1, h2, h3, -⟩
    · refine ⟨by omega, fun h => by omega, fun h => ?_⟩
      show zput M a s z = zput M a s (if _ then _ else _)
      rw [if_pos e]
    · rw [← q1] at h1 h2 h3
      rcases wdn_spec C R z.1 (M 14 3) r3 with ⟨e, -⟩ | ⟨w0, w3, hh⟩
      · exact absurd e h3
      · obtain ⟨p1, p3, -, p5⟩ := spill_step (B := 1000000000) hL.1 hS.1 ⟨h1, by omega⟩ hh
        refine ⟨by omega, fun h => ⟨hL', by omega, hB, ⟨w0, w3⟩, ?_⟩, fun h => by omega⟩
        have e : stz C R (M 14 3) (n + 1) z = stz C R (M 14 3) n (sldz C R z r3 (wdn C R z.1 (M 14 3) r3)) := by
          show (if _ then _ else _) = _
          rw [if_neg (by omega), ← q1]
        rw [e]
        refine ih _ (i + 1) (by omega) (by omega) (p5 hB) ?_
        have := ssq_sld (H := z.1) (f := r3) (t := alg C R r3 (wdn C R z.1 (M 14 3) r3) 1) (by omega) (by omega) (by omega)
        show ssq (sld z.1 r3 _) < _
        omega
end CW
