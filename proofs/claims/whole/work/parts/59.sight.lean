/-! counting bits, byte by byte -/
def m5 : Nat → Nat | 0 => 0 | k + 1 => 85 + 256 * m5 k
def m3 : Nat → Nat | 0 => 0 | k + 1 => 51 + 256 * m3 k
def mf : Nat → Nat | 0 => 0 | k + 1 => 15 + 256 * mf k
def s1 (k x : Nat) : Nat := x - ((x / 2) &&& m5 k)
def s2 (k y : Nat) : Nat := (y &&& m3 k) + ((y / 4) &&& m3 k)
def s3 (k z : Nat) : Nat := (z + z / 16) &&& mf k
def t1 (a : Nat) : Nat := a - (a / 2 &&& 85)
def t2 (y : Nat) : Nat := (y &&& 51) + (y / 4 &&& 51)
def t3 (z : Nat) : Nat := (z + z / 16) &&& 15
def p8 (a : Nat) : Nat := a % 2 + a / 2 % 2 + a / 4 % 2 + a / 8 % 2 + a / 16 % 2 + a / 32 % 2 + a / 64 % 2 + a / 128 % 2
theorem and_sp (x y z : Nat) (h : y < 256) : x &&& (y + 256 * z) = (x % 256 &&& y) + 256 * (x / 256 &&& z) := by
  have h1 : (x &&& (y + 256 * z)) % 256 = x % 256 &&& y := by
    have := Nat.and_mod_two_pow (a := x) (b := y + 256 * z) (n := 8)
    rw [show 2 ^ 8 = 256 from rfl, show (y + 256 * z) % 256 = y by omega] at this
    exact this
  have h2 : (x &&& (y + 256 * z)) / 256 = x / 256 &&& z := by
    have := Nat.and_div_two_pow (a := x) (b := y + 256 * z) (n := 8)
    rw [show 2 ^ 8 = 256 from rfl, show (y + 256 * z) / 256 = z by omega] at this
    exact this
  omega
theorem tb_1 : ∀ a, a < 256 → ∀ c, c < 2 → (a / 2 + 128 * c) &&& 85 = a / 2 &&& 85 := by decide +kernel
theorem tb_2 : ∀ a, a < 256 → ∀ c, c < 4 → (a / 4 + 64 * c) &&& 51 = a / 4 &&& 51 := by decide +kernel
theorem tb_3 : ∀ a, a < 256 → ∀ c, c < 5 → (a + a / 16 + 16 * c) &&& 15 = t3 a := by decide +kernel
theorem tb_4 : ∀ a, a < 256 → t1 a < 256 ∧ t2 (t1 a) < 256 ∧ t2 (t1 a) % 16 ≤ 4 ∧ t2 (t1 a) / 16 ≤ 4 ∧ t3 (t2 (t1 a)) = p8 a := by decide +kernel
theorem s1_s (k x : Nat) : s1 (k + 1) x = t1 (x % 256) + 256 * s1 k (x / 256) := by
  unfold s1 t1
  show x - ((x / 2) &&& (85 + 256 * m5 k)) = _
  have e := tb_1 (x % 256) (by omega) (x / 256 % 2) (by omega)
  rw [and_sp _ _ _ (by decide), show x / 2 / 256 = x / 256 / 2 by omega, show x / 2 % 256 = x % 256 / 2 + 128 * (x / 256 % 2) by omega, e]
  have h1 : (x % 256 / 2 &&& 85) ≤ x % 256 / 2 := Nat.and_le_left
  have h2 : (x / 256 / 2 &&& m5 k) ≤ x / 256 / 2 := Nat.and_le_left
  omega
theorem s2_s (k y : Nat) : s2 (k + 1) y = t2 (y % 256) + 256 * s2 k (y / 256) := by
  unfold s2 t2
  show (y &&& (51 + 256 * m3 k)) + ((y / 4) &&& (51 + 256 * m3 k)) = _
  have e := tb_2 (y % 256) (by omega) (y / 256 % 4) (by omega)
  rw [and_sp _ _ _ (by decide), and_sp _ _ _ (by decide), show y / 4 / 256 = y / 256 / 4 by omega, show y / 4 % 256 = y % 256 / 4 + 64 * (y / 256 % 4) by omega, e]
  omega
theorem s3_s (k z : Nat) (h1 : z % 256 / 16 ≤ 4) (h2 : z % 256 % 16 ≤ 4) (h3 : z / 256 % 16 ≤ 4) : s3 (k + 1) z = t3 (z % 256) + 256 * s3 k (z / 256) := by
  unfold s3
  show (z + z / 16) &&& (15 + 256 * mf k) = _
  have e := tb_3 (z % 256) (by omega) (z / 256 % 16) (by omega)
  rw [and_sp _ _ _ (by decide), show (z + z / 16) / 256 = z / 256 + z / 256 / 16 by omega, show (z + z / 16) % 256 = z % 256 + z % 256 / 16 + 16 * (z / 256 % 16) by omega, e]
theorem s12_s (k x : Nat) : s2 (k + 1) (s1 (k + 1) x) % 256 = t2 (t1 (x % 256)) ∧ s2 (k + 1) (s1 (k + 1) x) / 256 = s2 k (s1 k (x / 256)) := by
  have h := tb_4 (x % 256) (by omega)
  rw [s1_s, s2_s, show (t1 (x % 256) + 256 * s1 k (x / 256)) % 256 = t1 (x % 256) by omega, show (t1 (x % 256) + 256 * s1 k (x / 256)) / 256 = s1 k (x / 256) by omega]
  omega
theorem s12_m (k x : Nat) : s2 k (s1 k x) % 16 ≤ 4 := by
  cases k with
  | zero => show ((_ &&& 0) + (_ &&& 0)) % 16 ≤ 4; rw [Nat.and_zero, Nat.and_zero]; decide
  | succ k =>
    have h := s12_s k x
    have h4 := tb_4 (x % 256) (by omega)
    omega
def wbc (k x : Nat) : Nat := s3 k (s2 k (s1 k x))
theorem wbc_s (k x : Nat) : wbc (k + 1) x = p8 (x % 256) + 256 * wbc k (x / 256) := by
  have h := s12_s k x
  have h4 := tb_4 (x % 256) (by omega)
  have hm := s12_m k (x / 256)
  unfold wbc
  rw [s3_s k _ (by omega) (by omega) (by omega), h.1, h.2, h4.2.2.2.2]
theorem zb_hld (x j : Nat) : zb (hld x j) = ((x / 2 ^ j % 2 : Nat) : Int) := by
  rcases Nat.mod_two_eq_zero_or_one (x / 2 ^ j) with h | h
  · rw [h, zb_f (fun q => by rw [hld_nat] at q; omega)]; rfl
  · rw [h, zb_t ((hld_nat x j).mpr h)]; rfl
theorem cnt_8 (x : Nat) : cnt (fun s => hld x s) 8 = (p8 (x % 256) : Nat) := by
  have e : cnt (fun s => hld x s) 8 = 0 + zb (hld x (0 : Nat)) + zb (hld x (1 : Nat)) + zb (hld x (2 : Nat)) + zb (hld x (3 : Nat)) + zb (hld x (4 : Nat)) + zb (hld x (5 : Nat)) + zb (hld x (6 : Nat)) + zb (hld x (7 : Nat)) := rfl
  rw [e, zb_hld, zb_hld, zb_hld, zb_hld, zb_hld, zb_hld, zb_hld, zb_hld]
  unfold p8
  rw [show 2 ^ 0 = 1 from rfl, show 2 ^ 1 = 2 from rfl, show 2 ^ 2 = 4 from rfl, show 2 ^ 3 = 8 from rfl, show 2 ^ 4 = 16 from rfl, show 2 ^ 5 = 32 from rfl, show 2 ^ 6 = 64 from rfl, show 2 ^ 7 = 128 from rfl]
  omega
theorem cnt_sp (x m : Nat) : cnt (fun s => hld x s) (8 + m) = (p8 (x % 256) : Nat) + cnt (fun s => hld ((x / 256 : Nat) : Int) s) m := by
  induction m with
  | zero => rw [Nat.add_zero, cnt_8]; show _ = _ + (0 : Int); omega
  | succ m ih =>
    show cnt (fun s => hld x s) (8 + m) + zb (hld x ((8 + m : Nat) : Int)) = _ + (cnt (fun s => hld ((x / 256 : Nat) : Int) s) m + zb (hld ((x / 256 : Nat) : Int) (m : Int)))
    rw [ih, zb_hld, zb_hld, Nat.pow_add, ← Nat.div_div_eq_div_mul, show 2 ^ 8 = 256 from rfl]
    omega
theorem p8_le (a : Nat) : p8 a ≤ 8 := by unfold p8; omega
theorem cnt_50 {x : Nat} (h : x < 1125899906842624) : ∃ a0 a1 a2 a3 a4 a5 a6 : Nat, (a0 ≤ 8 ∧ a1 ≤ 8 ∧ a2 ≤ 8 ∧ a3 ≤ 8 ∧ a4 ≤ 8 ∧ a5 ≤ 8 ∧ a6 ≤ 8) ∧ cnt (fun s => hld x s) 50 = ((a0 + a1 + a2 + a3 + a4 + a5 + a6 : Nat) : Int) ∧ wbc 8 x = a0 + 256 * (a1 + 256 * (a2 + 256 * (a3 + 256 * (a4 + 256 * (a5 + 256 * a6))))) := by
  refine ⟨p8 (x % 256), p8 (x / 256 % 256), p8 (x / 256 / 256 % 256), p8 (x / 256 / 256 / 256 % 256), p8 (x / 256 / 256 / 256 / 256 % 256), p8 (x / 256 / 256 / 256 / 256 / 256 % 256), p8 (x / 256 / 256 / 256 / 256 / 256 / 256 % 256), ⟨p8_le _, p8_le _, p8_le _, p8_le _, p8_le _, p8_le _, p8_le _⟩, ?_, ?_⟩
  · rw [show 50 = 8 + 42 from rfl, cnt_sp, show 42 = 8 + 34 from rfl, cnt_sp, show 34 = 8 + 26 from rfl, cnt_sp, show 26 = 8 + 18 from rfl, cnt_sp, show 18 = 8 + 10 from rfl, cnt_sp, show 10 = 8 + 2 from rfl, cnt_sp]
    obtain ⟨y, hy⟩ : ∃ y, y = x / 256 / 256 / 256 / 256 / 256 / 256 := ⟨_, rfl⟩
    rw [← hy]
    have e : cnt (fun s => hld (y : Int) s) 2 = 0 + zb (hld y (0 : Nat)) + zb (hld y (1 : Nat)) := rfl
    rw [e, zb_hld, zb_hld]
    have hy4 : y < 4 := by omega
    have e6 : p8 (y % 256) = y % 2 + y / 2 % 2 := by unfold p8; omega
    rw [e6, show 2 ^ 0 = 1 from rfl, show 2 ^ 1 = 2 from rfl]
    omega
  · rw [wbc_s, wbc_s, wbc_s, wbc_s, wbc_s, wbc_s, wbc_s, wbc_s]
    have e7 : x / 256 / 256 / 256 / 256 / 256 / 256 / 256 = 0 := by omega
    rw [e7]
    have e8 : wbc 0 (0 / 256) = 0 := rfl
    have e9 : p8 (0 % 256) = 0 := rfl
    rw [e8, e9]
    simp only [Nat.mul_zero, Nat.add_zero]
section SG
variable {g g' : zG} {o o' : Bool} {M M' M1 M2 N N1 N2 A : zM} {k C R c d m x h is kk sd x1 x2 x3 x4 : Int} {n s : Nat}
theorem c_bitCount {x : Nat} (hx : x < 1125899906842624) : zKi g (z1 o) mJ13_bitCount_95d88 [zL x] M (fun r M' => r = cnt (fun s => hld x s) 50 ∧ M' = M) := by
  obtain ⟨a0, a1, a2, a3, a4, a5, a6, hb, hc, hw⟩ := cnt_50 hx
  have l1 : (x / 2 &&& m5 8) ≤ x / 2 := Nat.and_le_left
  have hs1 : s1 8 x ≤ x := by unfold s1; omega
  have l2 : (s1 8 x &&& m3 8) ≤ s1 8 x := Nat.and_le_left
  have l3 : (s1 8 x / 4 &&& m3 8) ≤ s1 8 x / 4 := Nat.and_le_left
  have hs2 : s2 8 (s1 8 x) ≤ 2 * x := by unfold s2; omega
  have q5 : m5 8 = 6148914691236517205 := by decide +kernel
  have q3 : m3 8 = 3689348814741910323 := by decide +kernel
  have qf : mf 8 = 1085102592571150095 := by decide +kernel
  refine zki_of rfl (Nat.le_of_ble_eq_true rfl) (SJ13_bitCount_95d88_0 ⟨by omega, by omega, ?_⟩)
  have e1 : (x : Int) - ((Int.toNat ((x : Int) / 2) &&& Int.toNat 6148914691236517205 : Nat) : Int) = ((s1 8 x : Nat) : Int) := by
    rw [show Int.toNat ((x : Int) / 2) = x / 2 by omega, show Int.toNat 6148914691236517205 = m5 8 by rw [q5]; rfl]
    unfold s1; omega
  rw [e1]
  obtain ⟨y, hy⟩ : ∃ y, y = s1 8 x := ⟨_, rfl⟩
  rw [← hy] at hs1 l2 l3 hs2 ⊢
  have e2 : ((Int.toNat (y : Int) &&& Int.toNat 3689348814741910323 : Nat) : Int) + ((Int.toNat ((y : Int) / 4) &&& Int.toNat 3689348814741910323 : Nat) : Int) = ((s2 8 y : Nat) : Int) := by
    rw [show Int.toNat ((y : Int) / 4) = y / 4 by omega, show Int.toNat (y : Int) = y by omega, show Int.toNat 3689348814741910323 = m3 8 by rw [q3]; rfl]
    unfold s2; omega
  refine SJ13_bitCount_95d88_10 (x0 := (y : Int)) ⟨by omega, by omega, by omega, ?_⟩
  rw [e2]
  obtain ⟨z, hz⟩ : ∃ z, z = s2 8 y := ⟨_, rfl⟩
  rw [← hz] at hs2 ⊢
  have e3 : ((Int.toNat ((z : Int) + (z : Int) / 16) &&& Int.toNat 1085102592571150095 : Nat) : Int) = ((wbc 8 x : Nat) : Int) := by
    rw [show Int.toNat ((z : Int) + (z : Int) / 16) = z + z / 16 by omega, show Int.toNat 1085102592571150095 = mf 8 by rw [qf]; rfl]
    unfold wbc s3; rw [← hy, ← hz]
  refine SJ13_bitCount_95d88_24 (x0 := (z : Int)) ⟨by omega, by omega, ?_⟩
  rw [e3, hw]
  obtain ⟨w, hww⟩ : ∃ w, w = a0 + 256 * (a1 + 256 * (a2 + 256 * (a3 + 256 * (a4 + 256 * (a5 + 256 * a6))))) := ⟨_, rfl⟩
  rw [← hww]
  refine SJ13_bitCount_95d88_34 (x0 := (w : Int)) ⟨by omega, ?_⟩
  obtain ⟨w1, hw1⟩ : ∃ w1 : Nat, w1 = w + w / 256 := ⟨_, rfl⟩
  rw [show (w : Int) + (w : Int) / 256 = (w1 : Int) by omega]
  refine SJ13_bitCount_95d88_41 (x0 := (w1 : Int)) ⟨by omega, ?_⟩
  obtain ⟨w2, hw2⟩ : ∃ w2 : Nat, w2 = w1 + w1 / 65536 := ⟨_, rfl⟩
  rw [show (w1 : Int) + (w1 : Int) / 65536 = (w2 : Int) by omega]
  refine SJ13_bitCount_95d88_48 (x0 := (w2 : Int)) ⟨by omega, ?_⟩
  obtain ⟨w3, hw3⟩ : ∃ w3 : Nat, w3 = w2 + w2 / 4294967296 := ⟨_, rfl⟩
  rw [show (w2 : Int) + (w2 : Int) / 4294967296 = (w3 : Int) by omega]
  refine SJ13_bitCount_95d88_55 ⟨?_, rfl⟩
  rw [hc]
  have f0 : w / 256 = a1 + 256 * (a2 + 256 * (a3 + 256 * (a4 + 256 * (a5 + 256 * a6)))) := by omega
  have f1 : w1 = (a0 + a1) + 256 * ((a1 + a2) + 256 * ((a2 + a3) + 256 * ((a3 + a4) + 256 * ((a4 + a5) + 256 * ((a5 + a6) + 256 * a6))))) := by omega
  have f2 : w1 / 65536 = (a2 + a3) + 256 * ((a3 + a4) + 256 * ((a4 + a5) + 256 * ((a5 + a6) + 256 * a6))) := by omega
  have f3 : w2 = (a0 + a1 + a2 + a3) + 256 * ((a1 + a2 + a3 + a4) + 256 * ((a2 + a3 + a4 + a5) + 256 * ((a3 + a4 + a5 + a6) + 256 * ((a4 + a5 + a6) + 256 * ((a5 + a6) + 256 * a6))))) := by omega
  have f4 : w2 / 4294967296 = (a4 + a5 + a6) + 256 * ((a5 + a6) + 256 * a6) := by omega
  omega
end SG
