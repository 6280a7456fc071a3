/-! the field: columns C, rows R, cells numbered row by row -/
def Geo (C R : Int) : Prop := 3 ≤ C ∧ C ≤ 12 ∧ 1 ≤ R ∧ R ≤ 8
def alg (C R c w k : Int) : Int := if w = 0 then C * (c / C) + (c % C + k) % C else if w = 1 then C * ((c / C + k) % R) + c % C else if w = 2 then C * (c / C) + (c % C + k * (C - 1)) % C else C * ((c / C + k * (R - 1)) % R) + c % C
def opp (w : Int) : Int := if w < 2 then w + 2 else w - 2
def rnd (C R w : Int) : Int := if w = 0 ∨ w = 2 then C else R
theorem alg0 (C R c k : Int) : alg C R c 0 k = C * (c / C) + (c % C + k) % C := if_pos rfl
theorem alg1 (C R c k : Int) : alg C R c 1 k = C * ((c / C + k) % R) + c % C := by unfold alg; rw [if_neg (by decide), if_pos rfl]
theorem alg2 (C R c k : Int) : alg C R c 2 k = C * (c / C) + (c % C + k * (C - 1)) % C := by unfold alg; rw [if_neg (by decide), if_neg (by decide), if_pos rfl]
theorem alg3 (C R c k : Int) : alg C R c 3 k = C * ((c / C + k * (R - 1)) % R) + c % C := by unfold alg; rw [if_neg (by decide), if_neg (by decide), if_neg (by decide)]
theorem geo_n {C R : Int} (h : Geo C R) : 3 ≤ C * R ∧ C * R ≤ 96 := by
  obtain ⟨h1, h2, h3, h4⟩ := h
  constructor
  · have := Int.mul_le_mul h1 h3 (by omega) (by omega); omega
  · have := Int.mul_le_mul h2 h4 (by omega) (by omega); omega
theorem dv {C x y : Int} (h : 0 ≤ x ∧ x < C) : (C * y + x) / C = y ∧ (C * y + x) % C = x := by
  have hC : C ≠ 0 := by omega
  constructor
  · rw [Int.add_comm, Int.add_mul_ediv_left _ _ hC, Int.ediv_eq_zero_of_lt h.1 h.2]; omega
  · rw [Int.add_comm, Int.add_mul_emod_self_left, Int.emod_eq_of_lt h.1 h.2]
theorem xy {C R c : Int} (h : Geo C R) (hc : 0 ≤ c ∧ c < C * R) : (0 ≤ c % C ∧ c % C < C) ∧ (0 ≤ c / C ∧ c / C < R) ∧ C * (c / C) + c % C = c := by
  have hC : 0 < C := by have := h.1; omega
  refine ⟨⟨Int.emod_nonneg _ (by omega), Int.emod_lt_of_pos _ hC⟩, ⟨Int.ediv_nonneg hc.1 (by omega), ?_⟩, Int.mul_ediv_add_emod c C⟩
  exact Int.ediv_lt_of_lt_mul hC (by rw [Int.mul_comm]; exact hc.2)
theorem cell_in {C R x y : Int} (hx : 0 ≤ x ∧ x < C) (hy : 0 ≤ y ∧ y < R) : 0 ≤ C * y + x ∧ C * y + x < C * R := by
  constructor
  · have := Int.mul_nonneg (show 0 ≤ C by omega) hy.1; omega
  · have : C * (y + 1) ≤ C * R := Int.mul_le_mul_of_nonneg_left (by omega) (by omega)
    rw [Int.mul_add] at this; omega
theorem md {C k : Int} (h : 0 < C) : 0 ≤ k % C ∧ k % C < C := ⟨Int.emod_nonneg _ (by omega), Int.emod_lt_of_pos _ h⟩
theorem alg_in {C R c w k : Int} (h : Geo C R) (hc : 0 ≤ c ∧ c < C * R) : 0 ≤ alg C R c w k ∧ alg C R c w k < C * R := by
  obtain ⟨hx, hy, -⟩ := xy h hc
  have hC : 0 < C := by have := h.1; omega
  have hR : 0 < R := by have := h.2.2.1; omega
  unfold alg
  split
  · exact cell_in (md hC) hy
  · split
    · exact cell_in hx (md hR)
    · split
      · exact cell_in (md hC) hy
      · exact cell_in hx (md hR)
theorem alg_0 {C R c w : Int} (h : Geo C R) (hc : 0 ≤ c ∧ c < C * R) : alg C R c w 0 = c := by
  obtain ⟨hx, hy, he⟩ := xy h hc
  unfold alg
  have e1 : (c % C + 0) % C = c % C := by rw [Int.add_zero]; exact Int.emod_eq_of_lt hx.1 hx.2
  have e2 : (c / C + 0) % R = c / C := by rw [Int.add_zero]; exact Int.emod_eq_of_lt hy.1 hy.2
  simp only [Int.zero_mul, e1, e2, he, ite_self]
theorem alg_s {C R c w j k : Int} (h : Geo C R) (hc : 0 ≤ c ∧ c < C * R) : alg C R (alg C R c w j) w k = alg C R c w (j + k) := by
  obtain ⟨hx, hy, -⟩ := xy h hc
  have hC : 0 < C := by have := h.1; omega
  have hR : 0 < R := by have := h.2.2.1; omega
  by_cases h0 : w = 0
  · subst h0
    simp only [alg, if_true]
    rw [(dv (md hC)).1, (dv (md hC)).2, Int.emod_add_emod, Int.add_assoc]
  · by_cases h1 : w = 1
    · subst h1
      simp only [alg, if_true, if_neg h0]
      rw [(dv hx).1, (dv hx).2, Int.emod_add_emod, Int.add_assoc]
    · by_cases h2 : w = 2
      · subst h2
        simp only [alg, if_true, if_neg h0, if_neg h1]
        rw [(dv (md hC)).1, (dv (md hC)).2, Int.emod_add_emod, Int.add_assoc, ← Int.add_mul]
      · simp only [alg, if_neg h0, if_neg h1, if_neg h2]
        rw [(dv hx).1, (dv hx).2, Int.emod_add_emod, Int.add_assoc, ← Int.add_mul]
theorem opp_in {w : Int} (h : 0 ≤ w ∧ w ≤ 3) : 0 ≤ opp w ∧ opp w ≤ 3 := by unfold opp; split <;> omega
theorem opp_opp {w : Int} (h : 0 ≤ w ∧ w ≤ 3) : opp (opp w) = w := by unfold opp; split <;> split <;> omega
/-- there and back -/
theorem alg_back {C R c w : Int} (h : Geo C R) (hc : 0 ≤ c ∧ c < C * R) (hw : 0 ≤ w ∧ w ≤ 3) : alg C R (alg C R c w 1) (opp w) 1 = c := by
  obtain ⟨hx, hy, he⟩ := xy h hc
  have hC : 0 < C := by have := h.1; omega
  have hR : 0 < R := by have := h.2.2.1; omega
  have k1 : ((c % C + 1) % C + (C - 1)) % C = c % C := by rw [Int.emod_add_emod, show c % C + 1 + (C - 1) = c % C + C by omega, Int.add_emod_right, Int.emod_eq_of_lt hx.1 hx.2]
  have k2 : ((c % C + (C - 1)) % C + 1) % C = c % C := by rw [Int.emod_add_emod, show c % C + (C - 1) + 1 = c % C + C by omega, Int.add_emod_right, Int.emod_eq_of_lt hx.1 hx.2]
  have k3 : ((c / C + 1) % R + (R - 1)) % R = c / C := by rw [Int.emod_add_emod, show c / C + 1 + (R - 1) = c / C + R by omega, Int.add_emod_right, Int.emod_eq_of_lt hy.1 hy.2]
  have k4 : ((c / C + (R - 1)) % R + 1) % R = c / C := by rw [Int.emod_add_emod, show c / C + (R - 1) + 1 = c / C + R by omega, Int.add_emod_right, Int.emod_eq_of_lt hy.1 hy.2]
  have hw' : w = 0 ∨ w = 1 ∨ w = 2 ∨ w = 3 := by omega
  rcases hw' with rfl | rfl | rfl | rfl
  · show alg C R (alg C R c 0 1) 2 1 = c
    rw [alg0, alg2, (dv (md hC)).1, (dv (md hC)).2, Int.one_mul, k1, he]
  · show alg C R (alg C R c 1 1) 3 1 = c
    rw [alg1, alg3, (dv hx).1, (dv hx).2, Int.one_mul, k3, he]
  · show alg C R (alg C R c 2 1) 0 1 = c
    rw [alg2, alg0, (dv (md hC)).1, (dv (md hC)).2, Int.one_mul, k2, he]
  · show alg C R (alg C R c 3 1) 1 1 = c
    rw [alg3, alg1, (dv hx).1, (dv hx).2, Int.one_mul, k4, he]
/-- the place in a round of the wind -/
def wix (sp : Int → Int) : Nat → Int → Int → Int
  | 0, i, _ => i
  | n + 1, i, l => if l < sp i then i else wix sp n (i + 1) (l - sp i)
def smt (f : Int → Int) : Nat → Int
  | 0 => 0
  | n + 1 => smt f n + f n
theorem smt_nn {f : Int → Int} {n : Nat} (h : ∀ i : Int, 0 ≤ i → i < n → 0 ≤ f i) : 0 ≤ smt f n := by
  induction n with
  | zero => exact Int.le_refl 0
  | succ n ih =>
    have h1 := ih (fun i h0 h1 => h i h0 (by omega))
    have h2 := h n (by omega) (by omega)
    show 0 ≤ smt f n + f n
    omega
theorem smt_le {f : Int → Int} {B : Int} {n : Nat} (h : ∀ i : Int, 0 ≤ i → i < n → f i ≤ B) : smt f n ≤ n * B := by
  induction n with
  | zero => simp [smt]
  | succ n ih =>
    have h1 := ih (fun i h0 h1 => h i h0 (by omega))
    have h2 := h n (by omega) (by omega)
    show smt f n + f n ≤ _
    have : ((n + 1 : Nat) : Int) * B = n * B + B := by rw [Int.natCast_add, Int.add_mul]; simp
    omega
theorem smt_congr {f h : Int → Int} {n : Nat} (e : ∀ i : Int, 0 ≤ i → i < n → f i = h i) : smt f n = smt h n := by
  induction n with
  | zero => rfl
  | succ n ih =>
    show smt f n + f n = smt h n + h n
    rw [ih (fun i h0 h1 => e i h0 (by omega)), e n (by omega) (by omega)]
