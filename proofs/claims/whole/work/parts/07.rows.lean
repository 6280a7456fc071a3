/-! ===== lN n to 2^64: shifts, and, or, masks, one bit ===== -/
theorem wb_tb (n : Nat) : (lN n).toBitVec = BitVec.ofNat 64 n := rfl
theorem wb_inj {a b : Int64} (h : a.toBitVec = b.toBitVec) : a = b := Int64.toBitVec_inj.mp h
theorem wb_tn {n : Nat} (h : n < 2 ^ 64) : (lN n).toBitVec.toNat = n := by rw [wb_tb, BitVec.toNat_ofNat, Nat.mod_eq_of_lt h]
theorem wb_of (x : Int64) : ∃ n, n < 2 ^ 64 ∧ x = lN n := ⟨x.toBitVec.toNat, x.toBitVec.isLt, wb_inj (by rw [wb_tb]; simp)⟩
theorem wb_of32 (x : Int32) : ∃ n, n < 2 ^ 32 ∧ x = nI n := ⟨x.toBitVec.toNat, x.toBitVec.isLt, Int32.toBitVec_inj.mp (by show _ = BitVec.ofNat 32 _; simp)⟩
theorem wb_c : ∀ k, k < 64 → ((nI k).toInt64 &&& 63) = lN k := by decide +kernel
theorem wb_cu : ∀ k, k < 64 → ((nI k).toInt64.toUInt64 &&& Int64.toUInt64 63) = UInt64.ofNat k := by decide +kernel
theorem wb_sm : ∀ k, k < 64 → (BitVec.ofNat 64 k).smod 64 = BitVec.ofNat 64 k := by decide +kernel
theorem wb_pw {a b : Nat} (h : a ≤ b) : 2 ^ b = 2 ^ a * 2 ^ (b - a) := by rw [← Nat.pow_add]; congr 1; omega
theorem wb_lt2 {a b : Nat} (h : a < b) : 2 ^ a < 2 ^ b := Nat.pow_lt_pow_right (by decide) h
theorem wb_mod (n : Nat) : lN n = lN (n % 2 ^ 64) := wb_inj (by rw [wb_tb, wb_tb]; apply BitVec.eq_of_toNat_eq; rw [BitVec.toNat_ofNat, BitVec.toNat_ofNat, Nat.mod_mod])
theorem wb_shr {n k : Nat} (hn : n < 2 ^ 64) (hk : k < 64) : ((lN n).toUInt64 >>> ((nI k).toInt64.toUInt64 &&& Int64.toUInt64 63)).toInt64 = lN (n / 2 ^ k) := by
  rw [wb_cu k hk]
  apply wb_inj
  apply BitVec.eq_of_toNat_eq
  show ((lN n).toUInt64 >>> UInt64.ofNat k).toNat = (BitVec.ofNat 64 _).toNat
  have h1 : (UInt64.ofNat k).toNat = k := by
    show (BitVec.ofNat 64 k).toNat = k
    rw [BitVec.toNat_ofNat, Nat.mod_eq_of_lt (by omega)]
  have h2 : (lN n).toUInt64.toNat = n := wb_tn hn
  rw [UInt64.toNat_shiftRight, h1, h2, Nat.mod_eq_of_lt hk, Nat.shiftRight_eq_div_pow, BitVec.toNat_ofNat, Nat.mod_eq_of_lt (Nat.lt_of_le_of_lt (Nat.div_le_self _ _) hn)]
theorem wb_shl (n : Nat) {k : Nat} (hk : k < 64) : lN n <<< ((nI k).toInt64 &&& 63) = lN (n * 2 ^ k) := by
  rw [wb_c k hk]
  apply wb_inj
  rw [Int64.toBitVec_shiftLeft, wb_tb, wb_tb, wb_tb, wb_sm k hk]
  apply BitVec.eq_of_toNat_eq
  rw [BitVec.shiftLeft_eq', BitVec.toNat_shiftLeft, BitVec.toNat_ofNat, BitVec.toNat_ofNat, BitVec.toNat_ofNat, Nat.mod_eq_of_lt (show k < 2 ^ 64 by omega), Nat.shiftLeft_eq, Nat.mul_mod, Nat.mod_mod, ← Nat.mul_mod]
theorem wb_and {a b : Nat} (ha : a < 2 ^ 64) (hb : b < 2 ^ 64) : lN a &&& lN b = lN (a &&& b) := by
  apply wb_inj
  rw [Int64.toBitVec_and, wb_tb, wb_tb, wb_tb]
  apply BitVec.eq_of_toNat_eq
  rw [BitVec.toNat_and, BitVec.toNat_ofNat, BitVec.toNat_ofNat, BitVec.toNat_ofNat, Nat.mod_eq_of_lt ha, Nat.mod_eq_of_lt hb, Nat.mod_eq_of_lt (Nat.and_lt_two_pow _ hb)]
theorem wb_or {a b : Nat} (ha : a < 2 ^ 64) (hb : b < 2 ^ 64) : lN a ||| lN b = lN (a ||| b) := by
  apply wb_inj
  rw [Int64.toBitVec_or, wb_tb, wb_tb, wb_tb]
  apply BitVec.eq_of_toNat_eq
  rw [BitVec.toNat_or, BitVec.toNat_ofNat, BitVec.toNat_ofNat, BitVec.toNat_ofNat, Nat.mod_eq_of_lt ha, Nat.mod_eq_of_lt hb, Nat.mod_eq_of_lt (Nat.or_lt_two_pow ha hb)]
theorem wb_mask {n k : Nat} (hn : n < 2 ^ 64) (hk : k < 64) : lN n &&& lN (2 ^ k - 1) = lN (n % 2 ^ k) := by
  rw [wb_and hn (by have := wb_lt2 hk; omega), Nat.and_two_pow_sub_one_eq_mod]
theorem wb_a1 {n : Nat} (hn : n < 2 ^ 64) : lN n &&& 1 = lN (n % 2) := wb_mask (k := 1) hn (by decide)
theorem wb_bit {n k : Nat} (hn : n < 2 ^ 64) (hk : k < 64) : ((lN n).toUInt64 >>> ((nI k).toInt64.toUInt64 &&& Int64.toUInt64 63)).toInt64 &&& 1 = lN (n / 2 ^ k % 2) := by
  rw [wb_shr hn hk, wb_a1 (Nat.lt_of_le_of_lt (Nat.div_le_self _ _) hn)]
/-! ===== lN to 2^62 under >> and >>> ===== -/
theorem pf_lI {a : Nat} (h : a < 2 ^ 63) : (lN a).toInt = (a : Int) := lg_ofNat_toInt h
theorem pf_shr {a d : Nat} {D : Int64} (hD : (D.toBitVec.smod 64).toNat = d) (h : a < 2 ^ 62) : lN a >>> D = lN (a / 2 ^ d) := by
  have hd : a / 2 ^ d ≤ a := Nat.div_le_self _ _
  apply Int64.toInt_inj.mp
  have e : (lN a >>> D).toInt = (lN a).toInt >>> d := by
    rw [← hD]
    exact BitVec.toInt_sshiftRight ..
  rw [e, Int.shiftRight_eq_div_pow, pf_lI (by omega), pf_lI (by omega)]
  rfl
theorem znn {x : Int} (h : 0 ≤ x) : ∃ n : Nat, x = (n : Int) := ⟨x.toNat, (Int.toNat_of_nonneg h).symm⟩
theorem zi_rem {x y : Int} (hx : 0 ≤ x ∧ x ≤ 2147483647) (hy : 0 < y ∧ y ≤ 2147483647) : Int32.ofInt x - Int32.ofInt x / Int32.ofInt y * Int32.ofInt y = Int32.ofInt (x % y) := by
  obtain ⟨a, rfl⟩ := znn hx.1
  obtain ⟨b, rfl⟩ := znn (Int.le_of_lt hy.1)
  exact pk_rem (by omega) (by omega) (by omega)
theorem zi_div {x y : Int} (hx : 0 ≤ x ∧ x ≤ 2147483647) (hy : 0 < y ∧ y ≤ 2147483647) : Int32.ofInt x / Int32.ofInt y = Int32.ofInt (x / y) := by
  obtain ⟨a, rfl⟩ := znn hx.1
  obtain ⟨b, rfl⟩ := znn (Int.le_of_lt hy.1)
  exact pk_div (by omega) (by omega) (by omega)
theorem zi_and {x : Int} {m : Int} (hm : m = 1 ∨ m = 3 ∨ m = 63 ∨ m = 255) : Int32.ofInt x &&& Int32.ofInt m = Int32.ofInt (x % (m + 1)) := by
  have key : ∀ k : Nat, k ≤ 8 → (Int32.ofInt m).toBitVec.toNat = 2 ^ k - 1 → m + 1 = (2 ^ k : Nat) → Int32.ofInt x &&& Int32.ofInt m = Int32.ofInt (x % (m + 1)) := by
    intro k hk h1 h2
    rw [pk_and (Int32.ofInt x) k h1, h2]
    apply Int32.toBitVec_inj.mp
    show BitVec.ofNat 32 _ = BitVec.ofInt 32 _
    apply BitVec.eq_of_toNat_eq
    have e : (Int32.ofInt x).toBitVec.toNat = (x % 4294967296).toNat := BitVec.toNat_ofInt ..
    rw [BitVec.toNat_ofNat, BitVec.toNat_ofInt, e]
    have hk' : k = 0 ∨ k = 1 ∨ k = 2 ∨ k = 3 ∨ k = 4 ∨ k = 5 ∨ k = 6 ∨ k = 7 ∨ k = 8 := by omega
    rcases hk' with rfl | rfl | rfl | rfl | rfl | rfl | rfl | rfl | rfl <;> simp <;> omega
  rcases hm with rfl | rfl | rfl | rfl
  · exact key 1 (by decide) (by decide) (by decide)
  · exact key 2 (by decide) (by decide) (by decide)
  · exact key 6 (by decide) (by decide) (by decide)
  · exact key 8 (by decide) (by decide) (by decide)
theorem zi_xor2 {x : Int} (hx : 0 ≤ x ∧ x ≤ 3) : Int32.ofInt x ^^^ Int32.ofInt 2 = Int32.ofInt (if x < 2 then x + 2 else x - 2) := by
  have : x = 0 ∨ x = 1 ∨ x = 2 ∨ x = 3 := by omega
  rcases this with rfl | rfl | rfl | rfl <;> decide
theorem zi_sm : ∀ k, k < 32 → ((nI k &&& 31).toBitVec.smod 32).toNat = k := by decide +kernel
theorem zi_shr {x k : Int} (hx : zin x) (hk : 0 ≤ k ∧ k ≤ 31) : Int32.ofInt x >>> (Int32.ofInt k &&& 31) = Int32.ofInt (x / (2 ^ k.toNat : Nat)) := by
  obtain ⟨n, rfl⟩ := znn hk.1
  apply Int32.toInt_inj.mp
  rw [show Int32.ofInt (n : Int) = nI n from rfl, pk_shr _ _ n (zi_sm n (by omega)), zi_to hx, Int.shiftRight_eq_div_pow]
  have h2 : (1 : Nat) ≤ 2 ^ n := Nat.one_le_two_pow
  have hz : zin (x / ((2 ^ n : Nat) : Int)) := by
    have hp : (0 : Int) < ((2 ^ n : Nat) : Int) := by omega
    constructor
    · rcases Int.lt_or_le x 0 with h | h
      · have := Int.le_ediv_of_mul_le (a := -2147483648) (b := x) hp (by have := hx.1; have : (-2147483648 : Int) * ((2 ^ n : Nat) : Int) ≤ -2147483648 * 1 := by apply Int.mul_le_mul_of_nonpos_left <;> omega
                                                                         omega)
        omega
      · have := Int.ediv_nonneg h (Int.le_of_lt hp); omega
    · rcases Int.lt_or_le x 0 with h | h
      · have := Int.ediv_neg_of_neg_of_pos h hp; omega
      · have := Int.ediv_le_self ((2 ^ n : Nat) : Int) h; have := hx.2; omega
  rw [zi_to (by simpa using hz)]
  simp
theorem zi_shl1 {k : Int} (hk : 0 ≤ k ∧ k ≤ 30) : Int32.ofInt 1 <<< (Int32.ofInt k &&& 31) = Int32.ofInt ((2 ^ k.toNat : Nat) : Int) := by
  obtain ⟨n, rfl⟩ := znn hk.1
  have h := pk_shlN (n := 1) (nI n &&& 31) n (zi_sm n (by omega)) (by rw [Nat.one_mul]; exact Nat.pow_lt_pow_right (by decide) (by omega))
  rw [Nat.one_mul] at h
  exact h
theorem zi_or {x y : Int} (hx : 0 ≤ x ∧ x ≤ 2147483647) (hy : 0 ≤ y ∧ y ≤ 2147483647) : Int32.ofInt x ||| Int32.ofInt y = Int32.ofInt ((x.toNat ||| y.toNat : Nat) : Int) := by
  obtain ⟨a, rfl⟩ := znn hx.1
  obtain ⟨b, rfl⟩ := znn hy.1
  apply Int32.toBitVec_inj.mp
  show BitVec.ofNat 32 a ||| BitVec.ofNat 32 b = BitVec.ofNat 32 (a ||| b)
  simp [BitVec.ofNat_or]
/-! longs -/
def zln (x : Int) : Prop := -9223372036854775808 ≤ x ∧ x ≤ 9223372036854775807
theorem zl_to {x : Int} (h : zln x) : (Int64.ofInt x).toInt = x := Int64.toInt_ofInt_of_le (by have := h.1; omega) (by have := h.2; omega)
theorem zl_rem {x y : Int} (hx : 0 ≤ x ∧ x ≤ 9223372036854775807) (hy : 0 < y ∧ y ≤ 9223372036854775807) : Int64.ofInt x - Int64.ofInt x / Int64.ofInt y * Int64.ofInt y = Int64.ofInt (x % y) := by
  obtain ⟨a, rfl⟩ := znn hx.1
  obtain ⟨b, rfl⟩ := znn (Int.le_of_lt hy.1)
  exact pk_lRem (by omega) (by omega) (by omega)
theorem zl_div {x y : Int} (hx : 0 ≤ x ∧ x ≤ 9223372036854775807) (hy : 0 < y ∧ y ≤ 9223372036854775807) : Int64.ofInt x / Int64.ofInt y = Int64.ofInt (x / y) := by
  obtain ⟨a, rfl⟩ := znn hx.1
  obtain ⟨b, rfl⟩ := znn (Int.le_of_lt hy.1)
  exact pk_lDiv (by omega) (by omega) (by omega)
theorem zl_and {x y : Int} (hx : 0 ≤ x ∧ x ≤ 9223372036854775807) (hy : 0 ≤ y ∧ y ≤ 9223372036854775807) : Int64.ofInt x &&& Int64.ofInt y = Int64.ofInt ((x.toNat &&& y.toNat : Nat) : Int) := by
  obtain ⟨a, rfl⟩ := znn hx.1
  obtain ⟨b, rfl⟩ := znn hy.1
  exact wb_and (by omega) (by omega)
theorem zl_or {x y : Int} (hx : 0 ≤ x ∧ x ≤ 9223372036854775807) (hy : 0 ≤ y ∧ y ≤ 9223372036854775807) : Int64.ofInt x ||| Int64.ofInt y = Int64.ofInt ((x.toNat ||| y.toNat : Nat) : Int) := by
  obtain ⟨a, rfl⟩ := znn hx.1
  obtain ⟨b, rfl⟩ := znn hy.1
  exact wb_or (by omega) (by omega)
theorem zl_shl {x k : Int} (hx : 0 ≤ x) (hk : 0 ≤ k ∧ k ≤ 63) : Int64.ofInt x <<< ((Int32.ofInt k).toInt64 &&& 63) = Int64.ofInt (x * (2 ^ k.toNat : Nat)) := by
  obtain ⟨a, rfl⟩ := znn hx
  obtain ⟨n, rfl⟩ := znn hk.1
  exact wb_shl a (by omega)
theorem zl_sm : ∀ k, k < 64 → ((lN k).toBitVec.smod 64).toNat = k := by decide +kernel
theorem zl_shr {x k : Int} (hx : 0 ≤ x ∧ x < 4611686018427387904) (hk : 0 ≤ k ∧ k ≤ 63) : Int64.ofInt x >>> ((Int32.ofInt k).toInt64 &&& 63) = Int64.ofInt (x / (2 ^ k.toNat : Nat)) := by
  obtain ⟨a, rfl⟩ := znn hx.1
  obtain ⟨n, rfl⟩ := znn hk.1
  rw [show (Int32.ofInt (n : Int)).toInt64 &&& 63 = lN n from wb_c n (by omega)]
  exact pf_shr (zl_sm n (by omega)) (by omega)
def zcmp (x y : Int) : Int := if y < x then 1 else if x = y then 0 else -1
theorem zl_cmp {x y : Int} (hx : zln x) (hy : zln y) : lg_cmp (Int64.ofInt x) (Int64.ofInt y) = Int32.ofInt (zcmp x y) := by
  unfold lg_cmp zcmp
  simp only [gt_iff_lt, Int64.lt_iff_toInt_lt, ← Int64.toInt_inj, zl_to hx, zl_to hy]
  split
  · rfl
  · split <;> rfl
theorem zi_i2l {x : Int} (hx : zin x) : (Int32.ofInt x).toInt64 = Int64.ofInt x := by
  apply Int64.toInt_inj.mp
  rw [zl_to ⟨by have := hx.1; omega, by have := hx.2; omega⟩]
  exact (Int32.toInt_toInt64 _).trans (zi_to hx)
section ZR4
variable {g : zG} {d : zD} {mm kw : Nat × Nat} {σ0 σ : zS} {Q : zP} {pc pc' : Nat} {l l' : List (Nat × Value)} {st st' : List Value} {M : zM}
theorem zne {x : Int} (h : 0 < x ∧ x ≤ 2147483647) : ¬ Int32.ofInt x = 0 := fun e => by
  have := (zi_eq ⟨by omega, by omega⟩ zin0).mp e; omega
theorem znl {x : Int} (h : 0 < x ∧ x ≤ 9223372036854775807) : ¬ Int64.ofInt x = 0 := fun e => by
  have h2 := congrArg Int64.toInt e
  rw [zl_to ⟨by omega, by omega⟩] at h2
  have : (0 : Int64).toInt = 0 := rfl
  omega
theorem zr_irem {x y : Int} (hd : decode d.2.1 pc = .ok (.irem, 1)) (hx : 0 ≤ x ∧ x ≤ 2147483647) (hy : 0 < y ∧ y ≤ 2147483647) (k : zR g d mm σ0 Q (pc + 1) l (zI (x % y) :: st) kw σ M) : zR g d mm σ0 Q pc l (zI y :: zI x :: st) kw σ M :=
  zr_st (fun B hl k => lv_irem B.1 B.2.1 hd (zne hy) (by rw [zi_rem hx hy]; exact k)) k
theorem zr_idiv {x y : Int} (hd : decode d.2.1 pc = .ok (.idiv, 1)) (hx : 0 ≤ x ∧ x ≤ 2147483647) (hy : 0 < y ∧ y ≤ 2147483647) (k : zR g d mm σ0 Q (pc + 1) l (zI (x / y) :: st) kw σ M) : zR g d mm σ0 Q pc l (zI y :: zI x :: st) kw σ M :=
  zr_st (fun B hl k => lv_idiv B.1 B.2.1 hd (zne hy) (by rw [zi_div hx hy]; exact k)) k
theorem zr_iand {x m : Int} (hd : decode d.2.1 pc = .ok (.iand, 1)) (hm : m = 1 ∨ m = 3 ∨ m = 63 ∨ m = 255) (k : zR g d mm σ0 Q (pc + 1) l (zI (x % (m + 1)) :: st) kw σ M) : zR g d mm σ0 Q pc l (zI m :: zI x :: st) kw σ M :=
  zr_st (fun B hl k => lv_iand B.1 B.2.1 hd (by rw [zi_and hm]; exact k)) k
theorem zr_ixor {x : Int} (hd : decode d.2.1 pc = .ok (.ixor, 1)) (hx : 0 ≤ x ∧ x ≤ 3) (k : zR g d mm σ0 Q (pc + 1) l (zI (if x < 2 then x + 2 else x - 2) :: st) kw σ M) : zR g d mm σ0 Q pc l (zI 2 :: zI x :: st) kw σ M :=
  zr_st (fun B hl k => lv_ixor B.1 B.2.1 hd (by rw [zi_xor2 hx]; exact k)) k
theorem zr_ishr {x y : Int} (hd : decode d.2.1 pc = .ok (.ishr, 1)) (hx : zin x) (hy : 0 ≤ y ∧ y ≤ 31) (k : zR g d mm σ0 Q (pc + 1) l (zI (x / (2 ^ y.toNat : Nat)) :: st) kw σ M) : zR g d mm σ0 Q pc l (zI y :: zI x :: st) kw σ M :=
  zr_st (fun B hl k => lv_ishr B.1 B.2.1 hd (by rw [zi_shr hx hy]; exact k)) k
theorem zr_ishl {y : Int} (hd : decode d.2.1 pc = .ok (.ishl, 1)) (hy : 0 ≤ y ∧ y ≤ 30) (k : zR g d mm σ0 Q (pc + 1) l (zI ((2 ^ y.toNat : Nat) : Int) :: st) kw σ M) : zR g d mm σ0 Q pc l (zI y :: zI 1 :: st) kw σ M :=
  zr_st (fun B hl k => lv_ishl B.1 B.2.1 hd (by rw [zi_shl1 hy]; exact k)) k
theorem zr_ior {x y : Int} (hd : decode d.2.1 pc = .ok (.ior, 1)) (hx : 0 ≤ x ∧ x ≤ 2147483647) (hy : 0 ≤ y ∧ y ≤ 2147483647) (k : zR g d mm σ0 Q (pc + 1) l (zI ((x.toNat ||| y.toNat : Nat) : Int) :: st) kw σ M) : zR g d mm σ0 Q pc l (zI y :: zI x :: st) kw σ M :=
  zr_st (fun B hl k => lv_ior B.1 B.2.1 hd (by rw [zi_or hx hy]; exact k)) k
theorem zr_ladd {x y : Int} (hd : decode d.2.1 pc = .ok (.ladd, 1)) (k : zR g d mm σ0 Q (pc + 1) l (zL (x + y) :: st) kw σ M) : zR g d mm σ0 Q pc l (zL y :: zL x :: st) kw σ M :=
  zr_st (fun B hl k => lv_ladd B.1 B.2.1 hd (by rw [← Int64.ofInt_add]; exact k)) k
theorem zr_lsub {x y : Int} (hd : decode d.2.1 pc = .ok (.lsub, 1)) (k : zR g d mm σ0 Q (pc + 1) l (zL (x - y) :: st) kw σ M) : zR g d mm σ0 Q pc l (zL y :: zL x :: st) kw σ M :=
  zr_st (fun B hl k => lv_lsub B.1 B.2.1 hd (by rw [← Int64.ofInt_sub]; exact k)) k
theorem zr_lmul {x y : Int} (hd : decode d.2.1 pc = .ok (.lmul, 1)) (k : zR g d mm σ0 Q (pc + 1) l (zL (x * y) :: st) kw σ M) : zR g d mm σ0 Q pc l (zL y :: zL x :: st) kw σ M :=
  zr_st (fun B hl k => lv_lmul B.1 B.2.1 hd (by rw [← Int64.ofInt_mul]; exact k)) k
theorem zr_ldiv {x y : Int} (hd : decode d.2.1 pc = .ok (.ldiv, 1)) (hx : 0 ≤ x ∧ x ≤ 9223372036854775807) (hy : 0 < y ∧ y ≤ 9223372036854775807) (k : zR g d mm σ0 Q (pc + 1) l (zL (x / y) :: st) kw σ M) : zR g d mm σ0 Q pc l (zL y :: zL x :: st) kw σ M :=
  zr_st (fun B hl k => lv_ldiv B.1 B.2.1 hd (znl hy) (by rw [zl_div hx hy]; exact k)) k
theorem zr_lrem {x y : Int} (hd : decode d.2.1 pc = .ok (.lrem, 1)) (hx : 0 ≤ x ∧ x ≤ 9223372036854775807) (hy : 0 < y ∧ y ≤ 9223372036854775807) (k : zR g d mm σ0 Q (pc + 1) l (zL (x % y) :: st) kw σ M) : zR g d mm σ0 Q pc l (zL y :: zL x :: st) kw σ M :=
  zr_st (fun B hl k => lv_lrem B.1 B.2.1 hd (znl hy) (by rw [zl_rem hx hy]; exact k)) k
theorem zr_land {x y : Int} (hd : decode d.2.1 pc = .ok (.land, 1)) (hx : 0 ≤ x ∧ x ≤ 9223372036854775807) (hy : 0 ≤ y ∧ y ≤ 9223372036854775807) (k : zR g d mm σ0 Q (pc + 1) l (zL ((x.toNat &&& y.toNat : Nat) : Int) :: st) kw σ M) : zR g d mm σ0 Q pc l (zL y :: zL x :: st) kw σ M :=
  zr_st (fun B hl k => lv_land B.1 B.2.1 hd (by rw [zl_and hx hy]; exact k)) k
theorem zr_lor {x y : Int} (hd : decode d.2.1 pc = .ok (.lor, 1)) (hx : 0 ≤ x ∧ x ≤ 9223372036854775807) (hy : 0 ≤ y ∧ y ≤ 9223372036854775807) (k : zR g d mm σ0 Q (pc + 1) l (zL ((x.toNat ||| y.toNat : Nat) : Int) :: st) kw σ M) : zR g d mm σ0 Q pc l (zL y :: zL x :: st) kw σ M :=
  zr_st (fun B hl k => lv_lor B.1 B.2.1 hd (by rw [zl_or hx hy]; exact k)) k
theorem zr_lshl {x y : Int} (hd : decode d.2.1 pc = .ok (.lshl, 1)) (hx : 0 ≤ x) (hy : 0 ≤ y ∧ y ≤ 63) (k : zR g d mm σ0 Q (pc + 1) l (zL (x * (2 ^ y.toNat : Nat)) :: st) kw σ M) : zR g d mm σ0 Q pc l (zI y :: zL x :: st) kw σ M :=
  zr_st (fun B hl k => lv_lshl B.1 B.2.1 hd (zl_shl hx hy) k) k
theorem zr_lshr {x y : Int} (hd : decode d.2.1 pc = .ok (.lshr, 1)) (hx : 0 ≤ x ∧ x < 4611686018427387904) (hy : 0 ≤ y ∧ y ≤ 63) (k : zR g d mm σ0 Q (pc + 1) l (zL (x / (2 ^ y.toNat : Nat)) :: st) kw σ M) : zR g d mm σ0 Q pc l (zI y :: zL x :: st) kw σ M :=
  zr_st (fun B hl k => lv_lshr B.1 B.2.1 hd (zl_shr hx hy) k) k
theorem zr_lcmp {x y : Int} (hd : decode d.2.1 pc = .ok (.lcmp, 1)) (hx : zln x) (hy : zln y) (k : zR g d mm σ0 Q (pc + 1) l (zI (zcmp x y) :: st) kw σ M) : zR g d mm σ0 Q pc l (zL y :: zL x :: st) kw σ M :=
  zr_st (fun B hl k => W.lcmp B.1 B.2.1 hd (by rw [zl_cmp hx hy]; exact k)) k
theorem zr_i2l {x : Int} (hd : decode d.2.1 pc = .ok (.i2l, 1)) (hx : zin x) (k : zR g d mm σ0 Q (pc + 1) l (zL x :: st) kw σ M) : zR g d mm σ0 Q pc l (zI x :: st) kw σ M :=
  zr_st (fun B hl k => lv_i2l B.1 B.2.1 hd (zi_i2l hx) k) k
theorem zr_lconst {n : Fin 2} {x : Int} (hd : decode d.2.1 pc = .ok (.lconst n, 1)) (hx : Int64.ofNat (n : Nat) = Int64.ofInt x) (k : zR g d mm σ0 Q (pc + 1) l (zL x :: st) kw σ M) : zR g d mm σ0 Q pc l st kw σ M :=
  zr_st (fun B hl k => lv_lconst B.1 B.2.1 hd hx k) k
theorem zr_ldc {idx : Nat} {x : Int} (hd : decode d.2.1 pc = .ok (.ldc idx, 2)) (hc : Cond.constant d.1.cls idx (Int32.ofInt x) ∈ zt) (k : zR g d mm σ0 Q (pc + 2) l (zI x :: st) kw σ M) : zR g d mm σ0 Q pc l st kw σ M :=
  zr_st (fun B hl k => lv_ldc B.1 B.2.1 B.2.2.2.2.2.1 (B.2.2.2.2.2.2.1 _ hc) hd k) k
theorem zr_ldcw {idx : Nat} {x : Int} (hd : decode d.2.1 pc = .ok (.ldc_w idx, 3)) (hc : Cond.constant d.1.cls idx (Int32.ofInt x) ∈ zt) (k : zR g d mm σ0 Q (pc + 3) l (zI x :: st) kw σ M) : zR g d mm σ0 Q pc l st kw σ M :=
  zr_st (fun B hl k => lv_ldcw B.1 B.2.1 B.2.2.2.2.2.1 (B.2.2.2.2.2.2.1 _ hc) hd k) k
theorem zr_ldc2 {idx : Nat} {x : Int} (hd : decode d.2.1 pc = .ok (.ldc2_w idx, 3)) (hc : Cond.constantLong d.1.cls idx (Int64.ofInt x) ∈ zt) (k : zR g d mm σ0 Q (pc + 3) l (zL x :: st) kw σ M) : zR g d mm σ0 Q pc l st kw σ M :=
  zr_st (fun B hl k => lv_ldc2 B.1 B.2.1 B.2.2.2.2.2.1 (B.2.2.2.2.2.2.1 _ hc) hd k) k
theorem zr_dup {v : Value} (hd : decode d.2.1 pc = .ok (.dup, 1)) (hv : v.category = 1) (k : zR g d mm σ0 Q (pc + 1) l (v :: v :: st) kw σ M) : zR g d mm σ0 Q pc l (v :: st) kw σ M :=
  zr_st (fun B hl k => lv_dup B.1 B.2.1 hd hv k) k
theorem zr_pop {v : Value} (hd : decode d.2.1 pc = .ok (.pop, 1)) (hv : v.category = 1) (k : zR g d mm σ0 Q (pc + 1) l st kw σ M) : zR g d mm σ0 Q pc l (v :: st) kw σ M :=
  zr_st (fun B hl k => lv_pop B.1 B.2.1 hd hv k) k
theorem zr_dup2 {v w : Value} (hd : decode d.2.1 pc = .ok (.dup2, 1)) (hv : v.category = 1) (hw : w.category = 1) (k : zR g d mm σ0 Q (pc + 1) l (v :: w :: v :: w :: st) kw σ M) : zR g d mm σ0 Q pc l (v :: w :: st) kw σ M :=
  zr_st (fun B hl k => lv_dup2_11 B.1 B.2.1 hd hv hw k) k
theorem zr_lstore_n {j : Fin 4} {x : Int} (hd : decode d.2.1 pc = .ok (.lstore_n j, 1)) (hn : (j : Nat) + 1 < d.2.2.1) (ks : List Nat) (h : lv_pick (((j : Nat), zL x) :: l.filter (fun q => !(q.1 == (j : Nat)) && (!(q.1 == (j : Nat) + 1) && !(q.1 + 1 == (j : Nat) && q.2.category == 2)))) ks = l')
    (k : zR g d mm σ0 Q (pc + 1) l' st kw σ M) : zR g d mm σ0 Q pc l (zL x :: st) kw σ M :=
  fun la p e s m args below meth c B H locs ls hA hS hH hl => lv_lstore_n B.1 B.2.1 hd rfl hl hn rfl (fun ls' hl' => k la p e s m args below meth c B H locs ls' hA hS hH (lv_sub hl' ks h))
theorem zr_lstore {j : Nat} {x : Int} (hd : decode d.2.1 pc = .ok (.lstore j, 2)) (hn : j + 1 < d.2.2.1) (ks : List Nat) (h : lv_pick ((j, zL x) :: l.filter (fun q => !(q.1 == j) && (!(q.1 == j + 1) && !(q.1 + 1 == j && q.2.category == 2)))) ks = l')
    (k : zR g d mm σ0 Q (pc + 2) l' st kw σ M) : zR g d mm σ0 Q pc l (zL x :: st) kw σ M :=
  fun la p e s m args below meth c B H locs ls hA hS hH hl => lv_lstore B.1 B.2.1 hd hl hn rfl (fun ls' hl' => k la p e s m args below meth c B H locs ls' hA hS hH (lv_sub hl' ks h))
/-- switches -/
theorem zr_tin {dflt lo hi x off : Int} {offs : Array Int} {len tgt : Nat} (hd : decode d.2.1 pc = .ok (.tableswitch dflt lo hi offs, len)) (hx : zin x) (h1 : ¬ x < lo) (h2 : ¬ hi < x) (ho : offs[(x - lo).toNat]? = some off) (ht : (pc : Int) + off = (tgt : Int)) (k : zR g d mm σ0 Q tgt l st kw σ M) : zR g d mm σ0 Q pc l (zI x :: st) kw σ M :=
  zr_st (fun B hl k => lv_tableIn B.1 B.2.1 hd (by rw [zi_to hx]; exact h1) (by rw [zi_to hx]; exact h2) (by rw [zi_to hx]; exact ho) ht k) k
theorem zr_tout {dflt lo hi x : Int} {offs : Array Int} {len tgt : Nat} (hd : decode d.2.1 pc = .ok (.tableswitch dflt lo hi offs, len)) (hx : zin x) (h : x < lo ∨ hi < x) (ht : (pc : Int) + dflt = (tgt : Int)) (k : zR g d mm σ0 Q tgt l st kw σ M) : zR g d mm σ0 Q pc l (zI x :: st) kw σ M :=
  zr_st (fun B hl k => lv_tableOut B.1 B.2.1 hd (by rw [zi_to hx]; exact h) ht k) k
theorem zr_look {dflt x off : Int} {ps : Array (Int × Int)} {len tgt : Nat} (hd : decode d.2.1 pc = .ok (.lookupswitch dflt ps, len)) (hp : (ps.toList.zip (ps.toList.drop 1)).all (fun (a, next) => a.1 < next.1) = true) (hx : zin x) (ho : Op.lookupswitch.offset ps.toList dflt x = off) (ht : (pc : Int) + off = (tgt : Int)) (k : zR g d mm σ0 Q tgt l st kw σ M) : zR g d mm σ0 Q pc l (zI x :: st) kw σ M :=
  zr_st (fun B hl k => lv_lookup B.1 B.2.1 hd hp (by rw [zi_to hx]; exact ho) ht k) k
/-- the greater, the lesser, without a sign -/
def zLm (d : zD) (idx : Nat) (y : MethodName) (b : ByteArray) (n : Nat) : Prop := Cond.methodLink d.1.cls idx y ∈ zt ∧ Cond.static y ∈ zt ∧ Cond.initialized "java/lang/Math" ∈ zt ∧ Cond.code y b n (some .int) ∈ zt ∧ 1 ≤ d.2.2.2.2.1 ∧ 21 ≤ d.2.2.2.2.2
theorem zr_max {idx : Nat} {x y : Int} (hd : decode d.2.1 pc = .ok (.invokestatic idx, 3)) (hL : zLm d idx Lib.Math.max.name Lib.Math.max.code 2) (hx : zin x) (hy : zin y) (hw : (st.map fun v => v.category).sum ≤ 8) (hk : kw.1 ≤ mm.1 ∧ kw.2 ≤ mm.2) (k : zR g d mm σ0 Q (pc + 3) l (zI (max x y) :: st) kw σ M) : zR g d mm σ0 Q pc l (zI y :: zI x :: st) kw σ M := by
  intro la p e s m args below meth c B H locs ls hA hS hH hl
  have kk := k la p e s m args below meth c B H locs ls hA hS hH hl
  obtain ⟨w1, w2, w3, w4, w5, w6⟩ := hL
  have hts := B.2.2.2.2.2.2.1
  refine va_mmax B.1 B.2.1 (B.2.2.1.trans hl.1.symm) B.2.2.2.2.2.1 (hts _ w1) (hts _ w2) (hts _ w3) (hts _ w4) w5 (by show _ ≤ d.2.2.2.2.2; omega) hk.1 hk.2 hd ?_
  have e : (if Int32.ofInt x < Int32.ofInt y then Int32.ofInt y else Int32.ofInt x) = Int32.ofInt (max x y) := by
    by_cases h : x < y
    · rw [if_pos ((zi_lt hx hy).mpr h), Int.max_eq_right (Int.le_of_lt h)]
    · rw [if_neg (fun q => h ((zi_lt hx hy).mp q)), Int.max_eq_left (by omega)]
  rw [e]; exact kk
theorem zr_min {idx : Nat} {x y : Int} (hd : decode d.2.1 pc = .ok (.invokestatic idx, 3)) (hL : zLm d idx Lib.Math.min.name Lib.Math.min.code 2) (hx : zin x) (hy : zin y) (hw : (st.map fun v => v.category).sum ≤ 8) (hk : kw.1 ≤ mm.1 ∧ kw.2 ≤ mm.2) (k : zR g d mm σ0 Q (pc + 3) l (zI (min x y) :: st) kw σ M) : zR g d mm σ0 Q pc l (zI y :: zI x :: st) kw σ M := by
  intro la p e s m args below meth c B H locs ls hA hS hH hl
  have kk := k la p e s m args below meth c B H locs ls hA hS hH hl
  obtain ⟨w1, w2, w3, w4, w5, w6⟩ := hL
  have hts := B.2.2.2.2.2.2.1
  refine va_mmin B.1 B.2.1 (B.2.2.1.trans hl.1.symm) B.2.2.2.2.2.1 (hts _ w1) (hts _ w2) (hts _ w3) (hts _ w4) w5 (by show _ ≤ d.2.2.2.2.2; omega) hk.1 hk.2 hd ?_
  have e : (if Int32.ofInt y < Int32.ofInt x then Int32.ofInt y else Int32.ofInt x) = Int32.ofInt (min x y) := by
    by_cases h : y < x
    · rw [if_pos ((zi_lt hy hx).mpr h), Int.min_eq_right (Int.le_of_lt h)]
    · rw [if_neg (fun q => h ((zi_lt hy hx).mp q)), Int.min_eq_left (by omega)]
  rw [e]; exact kk
theorem zr_abs {idx : Nat} {x : Int} (hd : decode d.2.1 pc = .ok (.invokestatic idx, 3)) (hL : zLm d idx Lib.Math.abs.name Lib.Math.abs.code 1) (hx : zin x) (hw : (st.map fun v => v.category).sum ≤ 8) (hk : kw.1 ≤ mm.1 ∧ kw.2 ≤ mm.2) (k : zR g d mm σ0 Q (pc + 3) l (zI (if 0 ≤ x then x else 0 - x) :: st) kw σ M) : zR g d mm σ0 Q pc l (zI x :: st) kw σ M := by
  intro la p e s m args below meth c B H locs ls hA hS hH hl
  have kk := k la p e s m args below meth c B H locs ls hA hS hH hl
  obtain ⟨w1, w2, w3, w4, w5, w6⟩ := hL
  have hts := B.2.2.2.2.2.2.1
  refine va_mabs B.1 B.2.1 (B.2.2.1.trans hl.1.symm) B.2.2.2.2.2.1 (hts _ w1) (hts _ w2) (hts _ w3) (hts _ w4) w5 (by show _ ≤ d.2.2.2.2.2; omega) hk.1 hk.2 hd ?_
  have e : (if 0 ≤ Int32.ofInt x then Int32.ofInt x else 0 - Int32.ofInt x) = Int32.ofInt (if 0 ≤ x then x else 0 - x) := by
    have h0 : (0 : Int32) = Int32.ofInt 0 := rfl
    rw [h0]
    by_cases h : 0 ≤ x
    · rw [if_pos ((zi_le zin0 hx).mpr h), if_pos h]
    · rw [if_neg (fun q => h ((zi_le zin0 hx).mp q)), if_neg h, ← Int32.ofInt_sub]
  rw [e]; exact kk
/-- static tables -/
def zTb (g : zG) (i : Nat) : Value := .ref (g.2.2.2 i)
theorem zS_A {s : State} {H : Heap} {locs : List Loc} (hS : va_S (zAg g σ0) s.heap H locs) : ∀ q : Nat, q < s.heap.size → ¬ g.1 < q → H[q]? = s.heap[q]? := fun q h1 h2 => hS.2.1 q h1 (fun h => h2 h.1)
theorem zr_gets {idx i : Nat} {nm : String} (hd : decode d.2.1 pc = .ok (.getstatic idx, 3)) (hi : (i = 0 ∧ nm = "RULE_LEAST") ∨ (i = 1 ∧ nm = "RULE_MOST")) (hL : Cond.fieldLink d.1.cls idx "SandMarch" nm "[I" ∈ zt ∨ (d.1.cls, idx, nm) ∈ znf) (k : zR g d mm σ0 Q (pc + 3) l (zTb g i :: st) kw σ M) : zR g d mm σ0 Q pc l st kw σ M := by
  intro la p e s m args below meth c B H locs ls hA hS hH hl
  have kk := k la p e s m args below meth c B H locs ls hA hS hH hl
  obtain ⟨hx, hb, -, -, -, hown, hts, -, -, hX, -⟩ := B
  have hZ : va_Z "SandMarch" nm "[I" (zTb g i) (zAg g σ0) s s.heap := by
    rcases hi with ⟨rfl, rfl⟩ | ⟨rfl, rfl⟩
    · exact hX.1.narrow (fun q h => h.1)
    · exact hX.2.2.1.narrow (fun q h => h.1)
  rcases hL with h | h
  · exact va_gets hx hb hZ hS hown (hts _ h) (fun _ h => h) hd kk
  · exact va_getsN hx hb hZ hS hown ((hX.2.2.2.2.2.2.2.2.2.2 _ h).use rfl) (fun _ h => h) hd kk
def zTv (i : Nat) (j : Nat) : Int := if i = 0 then [1, 1, 0, 0].getD j 0 else [6, 9, 16, 16].getD j 0
theorem zr_tald {i : Nat} {x : Int} (hd : decode d.2.1 pc = .ok (.iaload, 1)) (hi : i = 0 ∨ i = 1) (hx : 0 ≤ x ∧ x < 4) (k : zR g d mm σ0 Q (pc + 1) l (zI (zTv i x.toNat) :: st) kw σ M) : zR g d mm σ0 Q pc l (zI x :: zTb g i :: st) kw σ M := by
  intro la p e s m args below meth c B H locs ls hA hS hH hl
  have kk := k la p e s m args below meth c B H locs ls hA hS hH hl
  obtain ⟨hxx, hb, -, -, -, hown, hts, -, -, hX, -⟩ := B
  have hin := zi_in (n := 4) hx.1 hx.2 (by decide)
  have he : (Int32.ofInt x).toNatClampNeg = x.toNat := zi_nn ⟨by omega, by omega⟩ hx.1
  rcases hi with rfl | rfl
  · exact va_ti hxx hb (hX.2.1.narrow (fun q h => h.1)) hS hin (v := zI (zTv 0 x.toNat)) (by rw [he]; rfl) hd kk
  · exact va_ti hxx hb (hX.2.2.2.1.narrow (fun q h => h.1)) hS hin (v := zI (zTv 1 x.toNat)) (by rw [he]; rfl) hd kk
end ZR4
