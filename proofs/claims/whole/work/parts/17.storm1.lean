def Bd (H : Int → Int) : Prop := ∀ i : Int, 0 ≤ i → i < 96 → 0 ≤ H i ∧ H i ≤ 1000000000
def shd (C R : Int) (H : Int → Int) (sh c w : Int) : Prop := ∃ k : Int, 1 ≤ k ∧ k < rnd C R w ∧ H c + k * sh ≤ H (alg C R c (opp w) k)
def crest (C R : Int) (H : Int → Int) (c w : Int) : Prop := 0 < H c ∧ H (alg C R c (opp w) 1) ≤ H c ∧ H (alg C R c w 1) < H c
def crs (C : Int) (X : Int → Int) (f t w : Int) : Int → Int := if w = 0 then up X (t % C) (X (t % C) + 1) else if w = 2 then up X (f % C) (X (f % C) - 1) else X
def pk (m b h i : Int) : Int × Int := if m < h then (h, i) else (m, b)
def pku (C R : Int) (H : Int → Int) (m c : Int) : Nat → Int × Int
  | 0 => (m, -1)
  | n + 1 => if (pku C R H m c n).1 < H (alg C R c n 1) then (H (alg C R c n 1), n) else pku C R H m c n
def pkd (C R : Int) (H : Int → Int) (m c : Int) : Nat → Int × Int
  | 0 => (m, -1)
  | n + 1 => if H (alg C R c n 1) < (pkd C R H m c n).1 then (H (alg C R c n 1), n) else pkd C R H m c n
/-- the way to the highest one beside that is too high, to the lowest one that is too low; -1: none -/
def wup (C R : Int) (H : Int → Int) (S c : Int) : Int := (pku C R H (H c + S) c 4).2
def wdn (C R : Int) (H : Int → Int) (S c : Int) : Int := (pkd C R H (H c - S) c 4).2
def sld (H : Int → Int) (f t : Int) : Int → Int := up (up H f (H f - 1)) t (up H f (H f - 1) t + 1)
def sldM (M : zM) (a s : Nat) (C R f w : Int) : zM := zrw (zu (zrw M (s + 1) (sld (M (s + 1)) f (alg C R f w 1))) a 4 (M a 4 + 1)) (a + 1) (crs C (M (a + 1)) f (alg C R f w 1) w)
theorem zu_zrw (M : zM) (a : Nat) (i x : Int) : zu M a i x = zrw M a (up (M a) i x) := by
  funext b j; simp only [zu, zrw, up]; by_cases h : b = a <;> simp [h]
theorem zrw_self (M : zM) (a : Nat) : zrw M a (M a) = M := by
  funext b j; simp only [zrw]; split <;> simp_all
theorem zrw_zrw (M : zM) (a : Nat) (f h : Int → Int) : zrw (zrw M a f) a h = zrw M a h := by
  funext b j; simp only [zrw]; split <;> rfl
theorem zrw_row (M : zM) (a : Nat) (f : Int → Int) : zrw M a f a = f := by funext j; simp [zrw]
theorem zrw_other {M : zM} {a b : Nat} {f : Int → Int} (h : b ≠ a) : zrw M a f b = M b := by funext j; simp [zrw, h]
theorem zu_other {M : zM} {a b : Nat} {i x : Int} (h : b ≠ a) : zu M a i x b = M b := by funext j; simp [zu, h]
section CS
variable {g : zG} {o : Bool} {M : zM} {C R x c w t f : Int} {s a : Nat}
theorem zst_ne (h : zSt a s) : a ≠ s ∧ a ≠ s + 1 ∧ a + 1 ≠ s ∧ a + 1 ≠ s + 1 ∧ 20 ≤ s ∧ 32 ≤ a ∧ a ≠ s + 2 ∧ a ≠ s + 3 ∧ a + 1 ≠ s + 2 ∧ a + 1 ≠ s + 3 := by rcases h with ⟨rfl, rfl⟩ | ⟨rfl, rfl⟩ <;> decide
theorem c_cross (ha : zSt a s) (hL : zLand M C R) (hf : 0 ≤ f ∧ f < C * R) (ht : 0 ≤ t ∧ t < C * R) (hw : 0 ≤ w ∧ w ≤ 3) : zKv g (z1 o) mX7_cross [zA g a, zI f, zI t, zI w] M (fun M' => M' = zrw M (a + 1) (crs C (M (a + 1)) f t w)) := by
  have hn := geo_n hL.1
  have hC := hL.1
  unfold Geo at hC
  have ef := (hL.2.2.2.2.2.2.2.2 f hf.1 hf.2).1
  have et := (hL.2.2.2.2.2.2.2.2 t ht.1 ht.2).1
  have mf := md (C := C) (k := f) (by omega)
  have mt := md (C := C) (k := t) (by omega)
  refine zkv_of rfl (Nat.le_of_ble_eq_true rfl) (SX7_cross_0 ha ⟨by omega, fun h => ⟨fun h2 => ?_, fun h2 => ⟨by omega, by omega, ?_⟩⟩, fun h => ⟨by omega, by omega, ?_⟩⟩)
  · unfold crs; rw [if_neg h, if_neg h2, zrw_self]
  · unfold crs; rw [if_neg h, if_pos h2, ef, zu_zrw]
  · unfold crs; rw [if_pos h, et, zu_zrw]
theorem c_wayUp (ha : zSt a s) (hL : zLand M C R) (hc : 0 ≤ c ∧ c < C * R) (hB : Bd (M (s + 1))) : zKi g (z1 o) mX7_wayUp [zA g a, zI c] M (fun r M' => r = wup C R (M (s + 1)) (M 14 3) c ∧ M' = M) := by
  have hn := geo_n hL.1
  have hS := hL.2.2.2.2.1
  have hc0 := hB c hc.1 (by omega)
  refine zki_of rfl (Nat.le_of_ble_eq_true rfl) (SX7_wayUp_0 ha ⟨by omega, ?_⟩)
  have key : ∀ n : Nat, n ≤ 4 → -2147483648 ≤ (pku C R (M (s + 1)) (M (s + 1) c + M 14 3) c n).1 ∧ (pku C R (M (s + 1)) (M (s + 1) c + M 14 3) c n).1 ≤ 2147483647 := by
    intro n
    induction n with
    | zero => intro _; show _ ≤ M (s + 1) c + M 14 3 ∧ M (s + 1) c + M 14 3 ≤ _; omega
    | succ n ih =>
      intro h
      have h1 := alg_in (w := (n : Int)) (k := 1) hL.1 hc
      have h2 := hB _ h1.1 (by omega)
      have h3 := ih (by omega)
      unfold pku
      split
      · dsimp only; omega
      · exact h3
  suffices h : ∀ (n k : Nat), k + n = 4 → zT g (z1 o) mX7_wayUp (zQi (z1 o) (fun r M' => r = wup C R (M (s + 1)) (M 14 3) c ∧ M' = M)) 23 [(0, zA g a), (1, zI c), (2, zI (pku C R (M (s + 1)) (M (s + 1) c + M 14 3) c k).1), (3, zI (pku C R (M (s + 1)) (M (s + 1) c + M 14 3) c k).2), (4, zI k)] [] M from h 4 0 rfl
  intro n
  induction n with
  | zero => intro k hk; exact SX7_wayUp_23 (C := C) (R := R) ha ⟨by omega, fun h => ⟨by rw [show k = 4 by omega]; rfl, rfl⟩, fun h => by omega⟩
  | succ n ih =>
    intro k hk
    have h1 := alg_in (w := (k : Int)) (k := 1) hL.1 hc
    have h2 := hB _ h1.1 (by omega)
    have h3 := key k (by omega)
    have hh := ih (k + 1) (by omega)
    refine SX7_wayUp_23 ha ⟨by omega, fun h => by omega, fun h => ⟨hL, hc, by omega, by omega, by omega, h3, fun h4 => ?_, fun h4 => ?_⟩⟩
    · have e : pku C R (M (s + 1)) (M (s + 1) c + M 14 3) c (k + 1) = pku C R (M (s + 1)) (M (s + 1) c + M 14 3) c k := by
        show (if _ then _ else _) = _
        rw [if_neg (by omega)]
      rw [e] at hh; exact hh
    · have e : pku C R (M (s + 1)) (M (s + 1) c + M 14 3) c (k + 1) = (M (s + 1) (alg C R c k 1), (k : Int)) := by
        show (if _ then _ else _) = _
        rw [if_pos (by omega)]
      rw [e] at hh; exact hh
theorem c_wayDown (ha : zSt a s) (hL : zLand M C R) (hc : 0 ≤ c ∧ c < C * R) (hB : Bd (M (s + 1))) : zKi g (z1 o) mX7_wayDown [zA g a, zI c] M (fun r M' => r = wdn C R (M (s + 1)) (M 14 3) c ∧ M' = M) := by
  have hn := geo_n hL.1
  have hS := hL.2.2.2.2.1
  have hc0 := hB c hc.1 (by omega)
  refine zki_of rfl (Nat.le_of_ble_eq_true rfl) (SX7_wayDown_0 ha ⟨by omega, ?_⟩)
  have key : ∀ n : Nat, n ≤ 4 → -2147483648 ≤ (pkd C R (M (s + 1)) (M (s + 1) c - M 14 3) c n).1 ∧ (pkd C R (M (s + 1)) (M (s + 1) c - M 14 3) c n).1 ≤ 2147483647 := by
    intro n
    induction n with
    | zero => intro _; show _ ≤ M (s + 1) c - M 14 3 ∧ M (s + 1) c - M 14 3 ≤ _; omega
    | succ n ih =>
      intro h
      have h1 := alg_in (w := (n : Int)) (k := 1) hL.1 hc
      have h2 := hB _ h1.1 (by omega)
      have h3 := ih (by omega)
      unfold pkd
      split
      · dsimp only; omega
      · exact h3
  suffices h : ∀ (n k : Nat), k + n = 4 → zT g (z1 o) mX7_wayDown (zQi (z1 o) (fun r M' => r = wdn C R (M (s + 1)) (M 14 3) c ∧ M' = M)) 23 [(0, zA g a), (1, zI c), (2, zI (pkd C R (M (s + 1)) (M (s + 1) c - M 14 3) c k).1), (3, zI (pkd C R (M (s + 1)) (M (s + 1) c - M 14 3) c k).2), (4, zI k)] [] M from h 4 0 rfl
  intro n
  induction n with
  | zero => intro k hk; exact SX7_wayDown_23 (C := C) (R := R) ha ⟨by omega, fun h => ⟨by rw [show k = 4 by omega]; rfl, rfl⟩, fun h => by omega⟩
  | succ n ih =>
    intro k hk
    have h1 := alg_in (w := (k : Int)) (k := 1) hL.1 hc
    have h2 := hB _ h1.1 (by omega)
    have h3 := key k (by omega)
    have hh := ih (k + 1) (by omega)
    refine SX7_wayDown_23 ha ⟨by omega, fun h => by omega, fun h => ⟨hL, hc, by omega, by omega, by omega, h3, fun h4 => ?_, fun h4 => ?_⟩⟩
    · have e : pkd C R (M (s + 1)) (M (s + 1) c - M 14 3) c (k + 1) = pkd C R (M (s + 1)) (M (s + 1) c - M 14 3) c k := by
        show (if _ then _ else _) = _
        rw [if_neg (by omega)]
      rw [e] at hh; exact hh
    · have e : pkd C R (M (s + 1)) (M (s + 1) c - M 14 3) c (k + 1) = (M (s + 1) (alg C R c k 1), (k : Int)) := by
        show (if _ then _ else _) = _
        rw [if_pos (by omega)]
      rw [e] at hh; exact hh
theorem rnd_in (h : Geo C R) : 1 ≤ rnd C R w ∧ rnd C R w ≤ 12 := by unfold Geo at h; unfold rnd; split <;> omega
theorem c_shaded (ha : zSt a s) (hL : zLand M C R) (hc : 0 ≤ c ∧ c < C * R) (hw : 0 ≤ w ∧ w ≤ 3) (hB : Bd (M (s + 1))) (hsh : 0 ≤ M (s + 3) 1 ∧ M (s + 3) 1 ≤ 9) : zKi g (z1 o) mX7_shaded [zA g a, zI c, zI w] M (fun r M' => r = zb (shd C R (M (s + 1)) (M (s + 3) 1) c w) ∧ M' = M) := by
  have hn := geo_n hL.1
  have hr := rnd_in (w := w) hL.1
  have hc0 := hB c hc.1 (by omega)
  have ho := opp_in hw
  refine zki_of rfl (Nat.le_of_ble_eq_true rfl) (SX7_shaded_0 ha ⟨hw, hL, by omega, ?_⟩)
  suffices h : ∀ (n : Nat) (k : Int), 1 ≤ k → k + n = rnd C R w → (∀ j, 1 ≤ j → j < k → ¬ (M (s + 1) c + j * M (s + 3) 1 ≤ M (s + 1) (alg C R c (opp w) j))) → zT g (z1 o) mX7_shaded (zQi (z1 o) (fun r M' => r = zb (shd C R (M (s + 1)) (M (s + 3) 1) c w) ∧ M' = M)) 31 [(0, zA g a), (3, zI (opp w)), (4, zI (rnd C R w)), (5, zI (alg C R c (opp w) (k - 1))), (6, zI (M (s + 1) c + (k - 1) * M (s + 3) 1)), (7, zI k)] [] M by
    have hh := h (rnd C R w - 1).toNat 1 (by omega) (by omega) (fun j h1 h2 => by omega)
    rw [show (1 : Int) - 1 = 0 by omega, alg_0 hL.1 hc, Int.zero_mul, Int.add_zero] at hh
    exact hh
  intro n
  induction n with
  | zero =>
    intro k h1 hk hno
    refine SX7_shaded_31 (C := C) (R := R) ha ⟨by omega, by omega, fun h => ⟨(zb_f ?_).symm, rfl⟩, fun h => by omega⟩
    rintro ⟨j, j1, j2, j3⟩
    exact hno j j1 (by omega) j3
  | succ n ih =>
    intro k h1 hk hno
    have a1 := alg_in (w := opp w) (k := k - 1) hL.1 hc
    have e1 : alg C R (alg C R c (opp w) (k - 1)) (opp w) 1 = alg C R c (opp w) k := by rw [alg_s hL.1 hc]; congr 1; omega
    have a2 := alg_in (w := opp w) (k := k) hL.1 hc
    have b2 := hB _ a2.1 (by omega)
    have e2 : M (s + 1) c + (k - 1) * M (s + 3) 1 + M (s + 3) 1 = M (s + 1) c + k * M (s + 3) 1 := by rw [Int.sub_mul]; omega
    have b3 : 0 ≤ k * M (s + 3) 1 ∧ k * M (s + 3) 1 ≤ 108 := by
      constructor
      · exact Int.mul_nonneg (by omega) hsh.1
      · have := Int.mul_le_mul (show k ≤ 12 by omega) hsh.2 hsh.1 (by decide); omega
    refine SX7_shaded_31 (C := C) (R := R) ha ⟨by omega, by omega, fun h => by omega, fun h => ?_⟩
    rw [e1, e2]
    refine ⟨hL, a1, ho, by omega, by omega, by omega, fun h4 => ?_, fun h4 => ⟨(zb_t ⟨k, h1, by omega, by omega⟩).symm, rfl⟩⟩
    have hh := ih (k + 1) (by omega) (by omega) (fun j j1 j2 => by
      by_cases hj : j < k
      · exact hno j j1 hj
      · rw [show j = k by omega]; omega)
    rw [show k + 1 - 1 = k by omega] at hh
    exact hh
theorem c_crest (ha : zSt a s) (hL : zLand M C R) (hc : 0 ≤ c ∧ c < C * R) (hw : 0 ≤ w ∧ w ≤ 3) (hB : Bd (M (s + 1))) : zKi g (z1 o) mX7_isCrest [zA g a, zI c, zI w] M (fun r M' => r = zb (crest C R (M (s + 1)) c w) ∧ M' = M) := by
  have hn := geo_n hL.1
  have hc0 := hB c hc.1 (by omega)
  have a1 := alg_in (w := opp w) (k := 1) hL.1 hc
  have a2 := alg_in (w := w) (k := 1) hL.1 hc
  have b1 := hB _ a1.1 (by omega)
  have b2 := hB _ a2.1 (by omega)
  have ho := opp_in hw
  unfold crest
  refine zki_of rfl (Nat.le_of_ble_eq_true rfl) (SX7_isCrest_0 ha ⟨by omega, by omega, fun h => ⟨(zb_f (by omega)).symm, rfl⟩, fun h => ⟨hw, hL, hc, ho, by show 0 ≤ alg C R c (opp w) 1 ∧ alg C R c (opp w) 1 < 96; omega, by show _ ≤ M (s + 1) (alg C R c (opp w) 1) ∧ M (s + 1) (alg C R c (opp w) 1) ≤ _; omega, fun h2 => ⟨(zb_f ?_).symm, rfl⟩, fun h2 => ⟨by omega, by omega, fun h3 => ⟨(zb_f (by omega)).symm, rfl⟩, fun h3 => ⟨(zb_t ⟨by omega, ?_, by omega⟩).symm, rfl⟩⟩⟩⟩)
  · have h2 : M (s + 1) c < M (s + 1) (alg C R c (opp w) 1) := h2
    omega
  · have h2 : ¬ M (s + 1) c < M (s + 1) (alg C R c (opp w) 1) := h2
    omega
end CS
