/-- the land of a memory: columns C, rows R -/
def zLand (M : zM) (C R : Int) : Prop := Geo C R ∧ M 14 0 = C ∧ M 14 1 = R ∧ M 14 2 = C * R ∧ (1 ≤ M 14 3 ∧ M 14 3 ≤ 9) ∧ (1 ≤ M 14 4 ∧ M 14 4 ≤ 8) ∧ M 14 5 = smt (M 19) (M 14 4).toNat ∧ (∀ i, 0 ≤ i → i < M 14 4 → (0 ≤ M 18 i ∧ M 18 i ≤ 3) ∧ 1 ≤ M 19 i ∧ M 19 i ≤ 99) ∧ ∀ c, 0 ≤ c → c < C * R → M 15 c = c % C ∧ M 16 c = c / C ∧ ∀ w, 0 ≤ w → w ≤ 3 → M 17 (c * 4 + w) = alg C R c w 1
theorem zLand.of {M M' : zM} {C R : Int} (h : zLand M C R) (e : ∀ b, 14 ≤ b → b ≤ 19 → M' b = M b) : zLand M' C R := by
  unfold zLand at h ⊢
  rw [e 14 (by decide) (by decide), e 15 (by decide) (by decide), e 16 (by decide) (by decide), e 17 (by decide) (by decide), e 18 (by decide) (by decide), e 19 (by decide) (by decide)]
  exact h
/-- the wind of a try -/
def wnd (M : zM) (t : Int) : Int := M 18 (wix (M 19) (M 14 4).toNat 0 (t % M 14 5))
/-- a row of what acts change, out of a Sand -/
def zrow (M : zM) (s : Nat) : Int → Int := fun i => if 0 ≤ i ∧ i < 96 then M (s + 1) i else if 96 ≤ i ∧ i < 192 then M (s + 2) (i - 96) else if 192 ≤ i ∧ i < 196 then M (s + 3) (i - 192) else if i = 196 then M s 3 else if i = 197 then M s 4 else 0
def up (f : Int → Int) (i x : Int) : Int → Int := fun j => if j = i then x else f j
def mxt (f : Int → Int) : Nat → Int
  | 0 => 0
  | n + 1 => max (mxt f n) (f n)
noncomputable def cnt (P : Int → Prop) : Nat → Int
  | 0 => 0
  | n + 1 => cnt P n + zb (P n)
theorem cnt_in (P : Int → Prop) (n : Nat) : 0 ≤ cnt P n ∧ cnt P n ≤ n := by
  induction n with
  | zero => exact ⟨Int.le_refl 0, Int.le_refl 0⟩
  | succ n ih =>
    have := zb01 (P n)
    show 0 ≤ cnt P n + zb (P n) ∧ cnt P n + zb (P n) ≤ ((n + 1 : Nat) : Int)
    omega
theorem cnt_congr {P P' : Int → Prop} {n : Nat} (h : ∀ i : Int, 0 ≤ i → i < n → (P i ↔ P' i)) : cnt P n = cnt P' n := by
  induction n with
  | zero => rfl
  | succ n ih =>
    show cnt P n + zb (P n) = cnt P' n + zb (P' n)
    rw [ih (fun i h0 h1 => h i h0 (by omega)), zb_congr (h n (by omega) (by omega))]
theorem mxt_congr {f h : Int → Int} {n : Nat} (e : ∀ i : Int, 0 ≤ i → i < n → f i = h i) : mxt f n = mxt h n := by
  induction n with
  | zero => rfl
  | succ n ih =>
    show max (mxt f n) (f n) = max (mxt h n) (h n)
    rw [ih (fun i h0 h1 => e i h0 (by omega)), e n (by omega) (by omega)]
theorem mxt_in {f : Int → Int} {B : Int} {n : Nat} (hB : 0 ≤ B) (h : ∀ i : Int, 0 ≤ i → i < n → f i ≤ B) : 0 ≤ mxt f n ∧ mxt f n ≤ B := by
  induction n with
  | zero => exact ⟨Int.le_refl 0, hB⟩
  | succ n ih =>
    have h1 := ih (fun i h0 h1 => h i h0 (by omega))
    have h2 := h n (by omega) (by omega)
    show 0 ≤ max (mxt f n) (f n) ∧ max (mxt f n) (f n) ≤ B
    omega
section CL
variable {g : zG} {o : Bool} {M : zM} {C R x c w t m : Int} {s : Nat}
theorem c_has (hx : -2147483648 ≤ x ∧ x ≤ 2147483647) (hL : zLand M C R) : zKi g (z1 o) mX2_has [zA g 14, zI x] M (fun r M' => r = zb (0 ≤ x ∧ x < C * R) ∧ M' = M) := by
  have hn := geo_n hL.1
  have e : M 14 2 = C * R := hL.2.2.2.1
  exact zki_of rfl (Nat.le_of_ble_eq_true rfl) (SX2_has_0 ⟨hx, fun h => ⟨(zb_f (by omega)).symm, rfl⟩, fun h => ⟨by omega, fun h2 => ⟨(zb_f (by omega)).symm, rfl⟩, fun h2 => ⟨(zb_t (by omega)).symm, rfl⟩⟩⟩)
theorem c_nbr (hL : zLand M C R) (hc : 0 ≤ c ∧ c < C * R) (hw : 0 ≤ w ∧ w ≤ 3) : zKi g (z1 o) mX2_neighbour [zA g 14, zI c, zI w] M (fun r M' => r = alg C R c w 1 ∧ M' = M) := by
  have hn := geo_n hL.1
  have e := (hL.2.2.2.2.2.2.2.2 c hc.1 hc.2).2.2 w hw.1 hw.2
  refine zki_of rfl (Nat.le_of_ble_eq_true rfl) (SX2_neighbour_0 ⟨by omega, ?_, rfl⟩)
  exact e
theorem c_round (hL : zLand M C R) (hw : 0 ≤ w ∧ w ≤ 3) : zKi g (z1 o) mX2_roundOf [zA g 14, zI w] M (fun r M' => r = rnd C R w ∧ M' = M) := by
  have e0 : M 14 0 = C := hL.2.1
  have e1 : M 14 1 = R := hL.2.2.1
  refine zki_of rfl (Nat.le_of_ble_eq_true rfl) (SX2_roundOf_0 ?_)
  unfold rnd
  refine ⟨by omega, fun h => ⟨?_, rfl⟩, fun h => ⟨fun h2 => ⟨?_, rfl⟩, fun h2 => ⟨?_, rfl⟩⟩⟩
  · rw [if_pos (Or.inl h)]; exact e0
  · rw [if_neg (by omega)]; exact e1
  · rw [if_pos (Or.inr (by omega))]; exact e0
theorem c_slabs (hs : zSd s) : zKi g (z1 o) mX5_slabs [zA g s] M (fun r M' => r = smt (M (s + 1)) 96 ∧ M' = M) := by
  refine zki_of rfl (Nat.le_of_ble_eq_true rfl) (SX5_slabs_0 hs ?_)
  suffices h : ∀ (n k : Nat), k + n = 96 → zT g (z1 o) mX5_slabs (zQi (z1 o) (fun r M' => r = smt (M (s + 1)) 96 ∧ M' = M)) 4 [(0, zA g s), (1, zI (smt (M (s + 1)) k)), (2, zI k)] [] M from h 96 0 rfl
  intro n
  induction n with
  | zero => intro k hk; exact SX5_slabs_4 hs ⟨by omega, fun h => ⟨by rw [show k = 96 by omega], rfl⟩, fun h => by omega⟩
  | succ n ih => intro k hk; exact SX5_slabs_4 hs ⟨by omega, fun h => by omega, fun h => ⟨by omega, ih (k + 1) (by omega)⟩⟩
theorem c_highest (hs : zSd s) (hr : ∀ i : Int, 0 ≤ i → i < 96 → 0 ≤ M (s + 1) i ∧ M (s + 1) i ≤ 2000000000) : zKi g (z1 o) mX5_highest [zA g s] M (fun r M' => r = mxt (M (s + 1)) 96 ∧ M' = M) := by
  refine zki_of rfl (Nat.le_of_ble_eq_true rfl) (SX5_highest_0 hs ?_)
  suffices h : ∀ (n k : Nat), k + n = 96 → zT g (z1 o) mX5_highest (zQi (z1 o) (fun r M' => r = mxt (M (s + 1)) 96 ∧ M' = M)) 4 [(0, zA g s), (1, zI (mxt (M (s + 1)) k)), (2, zI k)] [] M from h 96 0 rfl
  intro n
  induction n with
  | zero => intro k hk; exact SX5_highest_4 hs ⟨by omega, fun h => ⟨by rw [show k = 96 by omega], rfl⟩, fun h => by omega⟩
  | succ n ih =>
    intro k hk
    have h1 := mxt_in (f := M (s + 1)) (B := 2000000000) (n := k) (by decide) (fun i h0 h1 => (hr i h0 (by omega)).2)
    have h2 := hr k (by omega) (by omega)
    exact SX5_highest_4 hs ⟨by omega, fun h => by omega, fun h => ⟨by omega, by omega, by omega, ih (k + 1) (by omega)⟩⟩
theorem c_bare (hs : zSd s) {n : Nat} (hn : n ≤ 96) (hr : ∀ i : Int, 0 ≤ i → i < 96 → 0 ≤ M (s + 1) i ∧ M (s + 1) i ≤ 2000000000) : zKi g (z1 o) mX5_bareCells [zA g s, zI n] M (fun r M' => r = cnt (fun i => M (s + 1) i = 0) n ∧ M' = M) := by
  refine zki_of rfl (Nat.le_of_ble_eq_true rfl) (SX5_bareCells_0 hs ?_)
  suffices h : ∀ (j k : Nat), k + j = n → zT g (z1 o) mX5_bareCells (zQi (z1 o) (fun r M' => r = cnt (fun i => M (s + 1) i = 0) n ∧ M' = M)) 4 [(0, zA g s), (1, zI n), (2, zI (cnt (fun i => M (s + 1) i = 0) k)), (3, zI k)] [] M from h n 0 (by omega)
  intro j
  induction j with
  | zero => intro k hk; exact SX5_bareCells_4 hs ⟨by omega, by omega, fun h => ⟨by rw [show k = n by omega], rfl⟩, fun h => by omega⟩
  | succ j ih =>
    intro k hk
    have h2 := hr k (by omega) (by omega)
    refine SX5_bareCells_4 hs ⟨by omega, by omega, fun h => by omega, fun h => ⟨by omega, by omega, fun h3 => ?_, fun h3 => ?_⟩⟩
    · have e : cnt (fun i => M (s + 1) i = 0) (k + 1) = cnt (fun i => M (s + 1) i = 0) k := by show cnt _ k + zb (M (s + 1) k = 0) = _; rw [zb_f h3]; omega
      have := ih (k + 1) (by omega)
      rw [e] at this; exact this
    · have e : cnt (fun i => M (s + 1) i = 0) (k + 1) = cnt (fun i => M (s + 1) i = 0) k + 1 := by show cnt _ k + zb (M (s + 1) k = 0) = _; rw [zb_t (by omega)]
      have := ih (k + 1) (by omega)
      rw [e] at this; exact this
theorem c_stick (hs : zSd s) (hc : 0 ≤ c ∧ c < 96) (hr : 0 ≤ M (s + 1) c ∧ M (s + 1) c ≤ 2000000000) : zKi g (z1 o) mX5_stickAt [zA g s, zI c] M (fun r M' => r = (if 0 < M (s + 1) c then M (s + 3) 2 else M (s + 3) 3) ∧ M' = M) := by
  refine zki_of rfl (Nat.le_of_ble_eq_true rfl) (SX5_stickAt_0 hs ⟨hc, by omega, fun h => ⟨?_, rfl⟩, fun h => ⟨?_, rfl⟩⟩)
  · rw [if_neg (by omega)]
  · rw [if_pos (by omega)]
theorem c_draw (hs : zSd s) (h0 : 0 ≤ M s 3 ∧ M s 3 ≤ 10006) (hm : 0 < m ∧ m ≤ 2147483647) : zKi g (z1 o) mX5_drawOf [zA g s, zI m] M (fun r M' => r = (M s 3 * 137 + 71) % 10007 % m ∧ M' = zu M s 3 ((M s 3 * 137 + 71) % 10007)) := by
  refine zki_of rfl (Nat.le_of_ble_eq_true rfl) (SX5_drawOf_0 hs ⟨by omega, by omega, fun h => by omega, fun h => ?_⟩)
  rw [zu_at]
  exact ⟨by omega, by omega, rfl, rfl⟩
theorem wix_lt {sp : Int → Int} {n : Nat} {i l : Int} (h : ∀ j, i ≤ j → j < i + n → 1 ≤ sp j) (h0 : 0 ≤ l) (hl : l < smt (fun j => sp (i + j)) n) : i ≤ wix sp n i l ∧ wix sp n i l < i + n := by
  induction n generalizing i l with
  | zero => simp [smt] at hl; omega
  | succ n ih =>
    unfold wix
    split
    · omega
    · rename_i hs
      have e : smt (fun j => sp (i + j)) (n + 1) = sp i + smt (fun j => sp (i + 1 + j)) n := by
        clear ih hl h
        induction n with
        | zero => simp [smt]
        | succ n ih2 =>
          show smt (fun j => sp (i + j)) (n + 1) + sp (i + ((n + 1 : Nat) : Int)) = sp i + (smt (fun j => sp (i + 1 + j)) n + sp (i + 1 + (n : Int)))
          rw [ih2, show i + ((n + 1 : Nat) : Int) = i + 1 + (n : Int) by omega]; omega
      rw [e] at hl
      have := ih (i := i + 1) (l := l - sp i) (fun j h1 h2 => h j (by omega) (by omega)) (by omega) (by omega)
      omega
theorem c_wind (hL : zLand M C R) (ht : 0 ≤ t ∧ t ≤ 2147483647) : zKi g (z1 o) mX2_windAt [zA g 14, zI t] M (fun r M' => r = wnd M t ∧ M' = M) := by
  obtain ⟨-, -, -, -, -, hn, hrd, hw, -⟩ := hL
  obtain ⟨n, hnn⟩ : ∃ n : Nat, M 14 4 = (n : Int) := znn (by omega)
  rw [hnn, Int.toNat_natCast] at hrd
  rw [hnn] at hw hn
  have hpos : 1 ≤ smt (M 19) n := by
    cases n with
    | zero => omega
    | succ k =>
      have h1 := smt_nn (f := M 19) (n := k) (fun i h0 h1 => by have := hw i h0 (by omega); omega)
      have h2 := hw k (by omega) (by omega)
      show 1 ≤ smt (M 19) k + M 19 k
      omega
  have hle : smt (M 19) n ≤ n * 99 := smt_le (fun i h0 h1 => (hw i h0 h1).2.2)
  have hmod := md (C := M 14 5) (k := t) (by omega)
  refine zki_of rfl (Nat.le_of_ble_eq_true rfl) (SX2_windAt_0 ⟨by omega, fun h => by omega, fun h => ⟨by omega, by omega, ?_⟩⟩)
  suffices h : ∀ (j : Nat) (i l : Int), 0 ≤ i → i + j = n → 0 ≤ l → l < smt (fun z => M 19 (i + z)) j → l ≤ 2147483647 → zT g (z1 o) mX2_windAt (zQi (z1 o) (fun r M' => r = M 18 (wix (M 19) j i l) ∧ M' = M)) 20 [(0, zA g 14), (2, zI l), (3, zI i)] [] M by
    have hh := h n 0 (t % M 14 5) (by omega) (by omega) hmod.1 (by rw [hrd] at hmod ⊢; simpa using hmod.2) (by omega)
    unfold wnd
    rw [hnn, Int.toNat_natCast]
    exact hh
  intro j
  induction j with
  | zero => intro i l h0 h1 h2 h3 h4; simp [smt] at h3; omega
  | succ j ih =>
    intro i l h0 h1 h2 h3 h4
    have hi := hw i h0 (by omega)
    refine SX2_windAt_20 ⟨by omega, by omega, fun h => by omega, fun h => ⟨by omega, by omega, by omega, fun h5 => ?_, fun h5 => ?_⟩⟩
    · have e : wix (M 19) (j + 1) i l = wix (M 19) j (i + 1) (l - M 19 i) := by
        show (if l < M 19 i then i else wix (M 19) j (i + 1) (l - M 19 i)) = _
        rw [if_neg (by omega)]
      rw [e]
      refine ih (i + 1) (l - M 19 i) (by omega) (by omega) (by omega) ?_ (by omega)
      have key : ∀ k : Nat, smt (fun z => M 19 (i + z)) (k + 1) = M 19 i + smt (fun z => M 19 (i + 1 + z)) k := by
        intro k
        induction k with
        | zero => simp [smt]
        | succ k ih2 =>
          show smt (fun z => M 19 (i + z)) (k + 1) + M 19 (i + ((k + 1 : Nat) : Int)) = M 19 i + (smt (fun z => M 19 (i + 1 + z)) k + M 19 (i + 1 + (k : Int)))
          rw [ih2, show i + ((k + 1 : Nat) : Int) = i + 1 + (k : Int) by omega]; omega
      rw [key] at h3; omega
    · have e : wix (M 19) (j + 1) i l = i := by
        show (if l < M 19 i then i else wix (M 19) j (i + 1) (l - M 19 i)) = _
        rw [if_pos (by omega)]
      rw [e]
      exact ⟨rfl, rfl⟩
end CL
