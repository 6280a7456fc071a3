/-- how many of those that fit have at a cell the height that one of them has -/
noncomputable def akF (P : Int → Prop) (H : Int → Int → Int) (c s : Int) : Int := cnt (fun o => P s ∧ P o ∧ H s c = H o c) 50
noncomputable def akL (P : Int → Prop) (H : Int → Int → Int) (c : Int) : Int := mxt (fun s => akF P H c s) 50
def amn (F : Int → Int) : Nat → Int × Int
  | 0 => (51, 0)
  | k + 1 => if F k < (amn F k).1 then (F k, (k : Int)) else amn F k
section AK
variable {g g' : zG} {o o' : Bool} {M M' M1 M2 N N' N1 N2 A : zM} {k C R c d m x y h is kk sd x1 x2 x3 x4 t : Int} {n s : Nat} {P : Int → Prop} {H : Int → Int → Int} {F : Int → Int}
theorem cnt_no {n : Nat} (h : ∀ i : Nat, i < n → ¬ P i) : cnt P n = 0 := by
  induction n with
  | zero => rfl
  | succ n ih =>
    show cnt P n + zb (P n) = 0
    rw [ih (fun i hi => h i (by omega)), zb_f (h n (by omega))]; rfl
theorem akF_in : 0 ≤ akF P H c d ∧ akF P H c d ≤ 50 := cnt_in _ 50
theorem akL_in : 0 ≤ akL P H c ∧ akL P H c ≤ 50 := mxt_in (by decide) (fun i _ _ => akF_in.2)
theorem amn_in (h : ∀ i : Nat, 0 ≤ F i ∧ F i ≤ 50) (n : Nat) : (0 ≤ (amn F n).1 ∧ (amn F n).1 ≤ 51) ∧ 0 ≤ (amn F n).2 ∧ (amn F n).2 ≤ n := by
  induction n with
  | zero => exact ⟨⟨by show (0 : Int) ≤ 51; decide, Int.le_refl _⟩, Int.le_refl _, Int.le_refl _⟩
  | succ n ih =>
    have := h n
    show (0 ≤ (if F n < (amn F n).1 then (F n, (n : Int)) else amn F n).1 ∧ (if F n < (amn F n).1 then (F n, (n : Int)) else amn F n).1 ≤ 51) ∧ 0 ≤ (if F n < (amn F n).1 then (F n, (n : Int)) else amn F n).2 ∧ (if F n < (amn F n).1 then (F n, (n : Int)) else amn F n).2 ≤ ((n + 1 : Nat) : Int)
    split
    · exact ⟨by show 0 ≤ F n ∧ F n ≤ 51; omega, by show 0 ≤ (n : Int); omega, by show (n : Int) ≤ _; omega⟩
    · exact ⟨ih.1, ih.2.1, by omega⟩
/-- the class's notes of heights -/
def svy (C R : Int) (P : Int → Prop) (H : Int → Int → Int) (f : Int → Int) (i : Nat) : Prop := ∀ s : Nat, s < i → P s → ∀ c : Int, 0 ≤ c → c < C * R → f ((s : Int) * 96 + c) = H s c ∧ 0 ≤ H s c ∧ H s c ≤ 4000
theorem Jt.svc (hJ : Jt k C R M1 M2) (hn : n ≤ 200) {x : Nat} (hx : x < 2 ^ 50) (hp : ∀ i : Nat, i < 50 → (hld x i ↔ P i)) : zKv g (z1 o) mX6_survey [zA g 122, zI n, zL x] M1 (fun N => fr1 M1 N ∧ svy C R P (fun s c => tdH C R M2 n s c) (N 126) 50) := by
  have hL := hJ.lr.1
  have hgn := geo_n hL.1
  refine zkv_of rfl (Nat.le_of_ble_eq_true rfl) (SX6_survey_0 ?_)
  suffices hs : ∀ (j i : Nat) (N : zM), i + j = 50 → fr1 M1 N → svy C R P (fun s c => tdH C R M2 n s c) (N 126) i → zT g (z1 o) mX6_survey (zQv (z1 o) (fun N => fr1 M1 N ∧ svy C R P (fun s c => tdH C R M2 n s c) (N 126) 50)) 3 [(0, zA g 122), (1, zI n), (2, zL x), (4, zI i)] [] N from hs 50 0 M1 rfl fr1.rf (fun s h => by omega)
  intro j
  induction j with
  | zero =>
    intro i N hi hf h
    have e50 : i = 50 := by omega
    subst e50
    exact SX6_survey_3 ⟨by omega, fun _ => ⟨hf, h⟩, fun h => by omega⟩
  | succ j ih =>
    intro i N hi hf h
    refine SX6_survey_3 ⟨by omega, fun h => by omega, fun _ => ⟨by have : x < 2 ^ 50 := hx; omega, by omega, fun z => ih (i + 1) N (by omega) hf (fun s a b => ?_), fun z => ⟨_, c_startFrom (show zSd 20 by unfold zSd; decide) (by decide), fun M9 hq => ⟨_, start_post (hf.Ld hL) (hJ.tok hf) (by omega) hq (by omega) (by decide) (by decide), fun r M14 hr => ?_⟩⟩⟩⟩
    · by_cases q : s = i
      · rw [q] at b; exact absurd ((hp i (by omega)).mpr b) z
      · exact h s (by omega) b
    · have f14 : fr1 M1 M14 := hf.trans (hr.2.2.1.fr1 rfl)
      have e2 : M14 14 2 = C * R := (f14.Ld hL).2.2.2.1
      have e126 : M14 126 = N 126 := hr.2.2.1 126 (by decide)
      rw [e2]
      refine ⟨by omega, by omega, by omega, by omega, ih (i + 1) _ (by omega) (f14.trans (frl.fr1 (l := [126]) (fun b hb => zrw_other (fun e => hb (by rw [e]; decide))) rfl)) (fun s a b c c0 c1 => ?_)⟩
      rw [zrw_at]
      unfold zcpy
      by_cases q : s = i
      · rw [q, if_pos (by omega), show 0 + ((i : Int) * 96 + c - (i : Int) * 96) = c by omega]
        have e : M14 29 c = tdH C R M2 n i c := hJ.tdq hf hr.2.1 c c0 (by omega)
        have b : 0 ≤ M14 29 c ∧ M14 29 c ≤ 3000 + n := hr.2.2.2.1 c c0 (by omega)
        rw [e] at b
        exact ⟨e, b.1, by show tdH C R M2 n i c ≤ 4000; omega⟩
      · rw [if_neg (by omega), e126]; exact h s (by omega) b c c0 c1
theorem c_alike (hc : 0 ≤ c ∧ c < C * R) (hG : Geo C R) {x : Nat} (hx : x < 2 ^ 50) (hp : ∀ i : Nat, i < 50 → (hld x i ↔ P i)) (hv : svy C R P H (M 126) 50) (hy : -2147483648 ≤ y ∧ y ≤ 2147483647) : zKi g (z1 o) mX6_alike [zA g 122, zI c, zI y, zL x] M (fun r N => r = cnt (fun o => P o ∧ H o c = y) 50 ∧ N = M) := by
  have hgn := geo_n hG
  refine zki_of rfl (Nat.le_of_ble_eq_true rfl) (SX6_alike_0 ?_)
  suffices hs : ∀ (j i : Nat), i + j = 50 → zT g (z1 o) mX6_alike (zQi (z1 o) (fun r N => r = cnt (fun o => P o ∧ H o c = y) 50 ∧ N = M)) 6 [(0, zA g 122), (1, zI c), (2, zI y), (3, zL x), (5, zI (cnt (fun o => P o ∧ H o c = y) i)), (6, zI i)] [] M from hs 50 0 rfl
  intro j
  induction j with
  | zero =>
    intro i hi
    have e50 : i = 50 := by omega
    subst e50
    exact SX6_alike_6 ⟨by omega, fun _ => ⟨rfl, rfl⟩, fun h => by omega⟩
  | succ j ih =>
    intro i hi
    have nx := ih (i + 1) (by omega)
    have ec : cnt (fun o => P o ∧ H o c = y) (i + 1) = cnt (fun o => P o ∧ H o c = y) i + zb (P i ∧ H i c = y) := rfl
    refine SX6_alike_6 ⟨by omega, fun h => by omega, fun _ => ⟨by have : x < 2 ^ 50 := hx; omega, by omega, fun z => ?_, fun z => ?_⟩⟩
    · rw [ec, zb_f (fun q => z ((hp i (by omega)).mpr q.1)), Int.add_zero] at nx; exact nx
    · have pp := (hp i (by omega)).mp z
      obtain ⟨v1, v2, v3⟩ := hv i (by omega) pp c hc.1 hc.2
      rw [v1]
      refine ⟨by omega, by omega, hy, fun w => ?_, fun w => ?_⟩
      · rw [ec, zb_f (fun q => w q.2), Int.add_zero] at nx; exact nx
      · rw [ec, zb_t ⟨pp, w⟩] at nx; exact nx
theorem c_mostAlike (hc : 0 ≤ c ∧ c < C * R) (hG : Geo C R) {x : Nat} (hx : x < 2 ^ 50) (hp : ∀ i : Nat, i < 50 → (hld x i ↔ P i)) (hv : svy C R P H (M 126) 50) : zKi g (z1 o) mX6_mostAlike [zA g 122, zI c, zL x] M (fun r N => r = akL P H c ∧ N = M) := by
  have hgn := geo_n hG
  refine zki_of rfl (Nat.le_of_ble_eq_true rfl) (SX6_mostAlike_0 ?_)
  suffices hs : ∀ (j i : Nat), i + j = 50 → zT g (z1 o) mX6_mostAlike (zQi (z1 o) (fun r N => r = akL P H c ∧ N = M)) 6 [(0, zA g 122), (1, zI c), (2, zL x), (4, zI (mxt (fun s => akF P H c s) i)), (5, zI i)] [] M from hs 50 0 rfl
  intro j
  induction j with
  | zero =>
    intro i hi
    have e50 : i = 50 := by omega
    subst e50
    exact SX6_mostAlike_6 ⟨by omega, fun _ => ⟨rfl, rfl⟩, fun h => by omega⟩
  | succ j ih =>
    intro i hi
    have nx := ih (i + 1) (by omega)
    have em : mxt (fun s => akF P H c s) (i + 1) = max (mxt (fun s => akF P H c s) i) (akF P H c i) := rfl
    have mi := mxt_in (f := fun s => akF P H c s) (B := 50) (n := i) (by decide) (fun i _ _ => akF_in.2)
    refine SX6_mostAlike_6 ⟨by omega, fun h => by omega, fun _ => ⟨by have : x < 2 ^ 50 := hx; omega, by omega, fun z => ?_, fun z => ?_⟩⟩
    · have e0 : akF P H c i = 0 := cnt_no (fun t _ q => z ((hp i (by omega)).mpr q.1))
      rw [em, e0, show max (mxt (fun s => akF P H c s) i) 0 = mxt (fun s => akF P H c s) i by omega] at nx; exact nx
    · have pp := (hp i (by omega)).mp z
      obtain ⟨v1, v2, v3⟩ := hv i (by omega) pp c hc.1 hc.2
      rw [v1]
      refine ⟨by omega, _, c_alike hc hG hx hp hv (by omega), fun r N hr => ?_⟩
      obtain ⟨r1, r2⟩ := hr
      subst r2
      have e1 : r = akF P H c i := by
        rw [r1]; exact cnt_congr (fun t _ _ => ⟨fun q => ⟨pp, q.1, q.2.symm⟩, fun q => ⟨q.2.1, q.2.2.symm⟩⟩)
      have ai := akF_in (P := P) (H := H) (c := c) (d := i)
      rw [e1, ← em]
      exact ⟨by omega, by omega, nx⟩
theorem c_leftBy (hc : 0 ≤ c ∧ c < C * R) (hG : Geo C R) (hp : ∀ i : Int, 0 ≤ i → i < 50 → M 24 i = zb (P i)) (hv : svy C R P H (fun i => M 25 i) 50) : zKi g (z2 o) mX10_leftBy [zA g 1, zI c] M (fun r N => r = akL P H c ∧ N = M) := by
  have hgn := geo_n hG
  refine zki_of rfl (Nat.le_of_ble_eq_true rfl) (SX10_leftBy_0 ?_)
  suffices hs : ∀ (j i : Nat), i + j = 50 → zT g (z2 o) mX10_leftBy (zQi (z2 o) (fun r N => r = akL P H c ∧ N = M)) 4 [(0, zA g 1), (1, zI c), (2, zI (mxt (fun s => akF P H c s) i)), (3, zI i)] [] M from hs 50 0 rfl
  intro j
  induction j with
  | zero =>
    intro i hi
    have e50 : i = 50 := by omega
    subst e50
    exact SX10_leftBy_4 ⟨by omega, fun _ => ⟨rfl, rfl⟩, fun h => by omega⟩
  | succ j ih =>
    intro i hi
    have nx := ih (i + 1) (by omega)
    have em : mxt (fun s => akF P H c s) (i + 1) = max (mxt (fun s => akF P H c s) i) (akF P H c i) := rfl
    rw [em] at nx
    have mi := mxt_in (f := fun s => akF P H c s) (B := 50) (n := i) (by decide) (fun i _ _ => akF_in.2)
    have ai := akF_in (P := P) (H := H) (c := c) (d := i)
    have pi := hp i (by omega) (by omega)
    have zi := zb01 (P i)
    refine SX10_leftBy_4 ⟨by omega, fun h => by omega, fun _ => ?_⟩
    suffices hs2 : ∀ (b a : Nat), a + b = 50 → zT g (z2 o) mX10_leftBy (zQi (z2 o) (fun r N => r = akL P H c ∧ N = M)) 16 [(0, zA g 1), (1, zI c), (2, zI (mxt (fun s => akF P H c s) i)), (3, zI i), (4, zI (cnt (fun o => P i ∧ P o ∧ H i c = H o c) a)), (5, zI a)] [] M from hs2 50 0 rfl
    intro b
    induction b with
    | zero =>
      intro a ha
      have e50 : a = 50 := by omega
      subst e50
      unfold akF at ai
      exact SX10_leftBy_16 ⟨by omega, fun _ => ⟨by omega, by omega, nx⟩, fun h => by omega⟩
    | succ b ihb =>
      intro a ha
      have ny := ihb (a + 1) (by omega)
      have ec : cnt (fun o => P i ∧ P o ∧ H i c = H o c) (a + 1) = cnt (fun o => P i ∧ P o ∧ H i c = H o c) a + zb (P i ∧ P a ∧ H i c = H a c) := rfl
      rw [ec] at ny
      have pa := hp a (by omega) (by omega)
      have za := zb01 (P a)
      refine SX10_leftBy_16 ⟨by omega, fun h => by omega, fun _ => ⟨by omega, by omega, fun z => ?_, fun z => ⟨by omega, by omega, fun w => ?_, fun w => ?_⟩⟩⟩
      · rw [zb_f (fun q => by rw [zb_t q.1] at pi; omega)] at ny; exact ny
      · rw [zb_f (fun q => by rw [zb_t q.2.1] at pa; omega)] at ny; exact ny
      · have pI : P i := Classical.byContradiction fun q => z (by rw [pi, zb_f q])
        have pA : P a := Classical.byContradiction fun q => w (by rw [pa, zb_f q])
        obtain ⟨v1, v2, v3⟩ := hv i (by omega) pI c hc.1 hc.2
        obtain ⟨u1, u2, u3⟩ := hv a (by omega) pA c hc.1 hc.2
        have v1 : M 25 (96 * (i : Int) + c) = H i c := by rw [show 96 * (i : Int) = (i : Int) * 96 by omega]; exact v1
        have u1 : M 25 (96 * (a : Int) + c) = H a c := by rw [show 96 * (a : Int) = (a : Int) * 96 by omega]; exact u1
        rw [v1, u1]
        refine ⟨by omega, by omega, by omega, by omega, fun q => ?_, fun q => ?_⟩
        · rw [zb_f (fun q' => q q'.2.2)] at ny; exact ny
        · rw [zb_t ⟨pI, pA, q⟩] at ny; exact ny
theorem p_ask (hJ : Jt k C R M1 M2) (hk : k < 1000) (h1 : -2147483648 ≤ x1 ∧ x1 ≤ 2147483647) (h2 : -2147483648 ≤ x2 ∧ x2 ≤ 2147483647) (h3 : -2147483648 ≤ x3 ∧ x3 ≤ 2147483647) : zE g g' o o' mX9_ask mX10_ask [zI x1, zI x2, zI x3] k M1 M2 := by
  obtain ⟨hL, hR⟩ := hJ.lr
  have hG := hL.1
  have hgn := geo_n hG
  by_cases hx : 0 ≤ x1 ∧ x1 ≤ 200
  · by_cases hw : 0 ≤ x2 ∧ x2 ≤ 1
    · obtain ⟨n, hn⟩ := znn hx.1
      subst hn
      obtain ⟨P, hP⟩ : ∃ P : Int → Prop, P = fun s => FPs C R M2 x3 s := ⟨_, rfl⟩
      obtain ⟨H, hH⟩ : ∃ H : Int → Int → Int, H = fun s c => tdH C R M2 n s c := ⟨_, rfl⟩
      obtain ⟨m, hm⟩ := znn (show 0 ≤ C * R by omega)
      have ai := fun i : Nat => amn_in (F := fun c => akL P H c) (fun i => akL_in) i
      have as : ∀ i : Nat, amn (fun c => akL P H c) (i + 1) = if akL P H i < (amn (fun c => akL P H c) i).1 then (akL P H i, (i : Int)) else amn (fun c => akL P H c) i := fun i => rfl
      have c5 := cnt_in P 50
      obtain ⟨AA, hAA⟩ : ∃ AA, AA = (if cnt P 50 = 0 then -1 else if x2 = 0 then (amn (fun c => akL P H c) m).2 else (amn (fun c => akL P H c) m).1) := ⟨_, rfl⟩
      refine zE_of (A := AA) hJ hk (zki_of rfl (Nat.le_of_ble_eq_true rfl) (SX9_ask_0 ⟨h1, fun h => by omega, fun _ => ⟨fun h => by omega, fun _ => ⟨h2, fun h => by omega, fun _ => ⟨fun _ => ⟨_, hJ.fitc h3, fun r4 M5 hq => ?_⟩, fun h => by omega⟩⟩⟩⟩)) (zki_of rfl (Nat.le_of_ble_eq_true rfl) (SX10_ask_0 ⟨h1, fun h => absurd hx h, fun _ => ⟨h2, fun h => absurd hw h, fun _ => ⟨_, hJ.lfs h3, fun r10 M11 hq => ?_⟩⟩⟩))
      · obtain ⟨x, q1, q2, q3, q4⟩ := hq
        subst q4
        rw [q1]
        have hp : ∀ i : Nat, i < 50 → (hld x i ↔ P i) := fun i hi => by rw [hld_bit, q3 i hi, hP]
        refine ⟨by have : x < 2 ^ 50 := q2; omega, fun z => ⟨_, hJ.svc (by omega) q2 hp, fun M11 hv => ?_⟩, fun z => ⟨?_, fr1.rf⟩⟩
        · have hne : cnt P 50 ≠ 0 := by
            intro e
            have : ∀ i, x.testBit i = (0 : Nat).testBit i := fun i => by
              rw [Nat.zero_testBit]
              by_cases hi : i < 50
              · cases hb : x.testBit i with
                | false => rfl
                | true =>
                  have pI : P i := (hp i hi).mp ((hld_bit x i).mpr hb)
                  have h1 := cnt_mono (P := P) (i := i + 1) (j := 50) (by omega)
                  have h2 : cnt P (i + 1) = cnt P i + zb (P i) := rfl
                  have h3 := cnt_in P i
                  rw [zb_t pI] at h2
                  omega
              · exact Nat.testBit_lt_two_pow (Nat.lt_of_lt_of_le q2 (Nat.pow_le_pow_right (by decide) (by omega)))
            have := Nat.eq_of_testBit_eq this
            omega
          obtain ⟨v1, v2⟩ := hv
          rw [← hH] at v2
          have e14 : M11 14 2 = C * R := (v1.Ld hL).2.2.2.1
          suffices hs : ∀ (j i : Nat), i + j = m → zT g (z1 o) mX9_ask (zQi (z1 o) (fun r N => r = AA ∧ fr1 M5 N)) 61 [(0, zA g 1), (2, zI x2), (4, zL x), (6, zI (amn (fun c => akL P H c) i).2), (7, zI (amn (fun c => akL P H c) i).1), (8, zI i)] [] M11 from hs m 0 (by omega)
          intro j
          induction j with
          | zero =>
            intro i hi
            rw [show i = m by omega]
            exact SX9_ask_61 ⟨by omega, by omega, fun _ => ⟨h2, fun z => ⟨by rw [hAA, if_neg hne, if_neg z], v1⟩, fun z => ⟨by rw [hAA, if_neg hne, if_pos z], v1⟩⟩, fun h => by omega⟩
          | succ j ih =>
            intro i hi
            have nx := ih (i + 1) (by omega)
            have aI := ai i
            have lI := akL_in (P := P) (H := H) (c := i)
            refine SX9_ask_61 ⟨by omega, by omega, fun h => by omega, fun _ => ⟨_, c_mostAlike (by omega) hG q2 hp v2, fun r N hr => ?_⟩⟩
            obtain ⟨r1, r2⟩ := hr
            subst r2
            rw [r1]
            refine ⟨by omega, by omega, fun z => ?_, fun z => ?_⟩
            · rw [as i, if_neg (by omega)] at nx; exact nx
            · rw [as i, if_pos (by omega)] at nx; exact nx
        · rw [hAA, if_pos]
          have x0 : x = 0 := by omega
          refine cnt_no (fun i hi pI => ?_)
          have := (hld_bit x i).mp ((hp i hi).mpr pI)
          rw [x0, Nat.zero_testBit] at this
          exact absurd this (by decide)
      · obtain ⟨q1, q2, q3⟩ := hq
        rw [← hP] at q1
        rw [q1]
        refine ⟨by omega, fun z => ?_, fun z => ⟨by rw [hAA, if_pos z], q3⟩⟩
        have q2 : ∀ s : Int, 0 ≤ s → s < 50 → M11 24 s = zb (P s) := fun s a b => by rw [q2 s a b, hP]
        have fin : ∀ N : zM, fr2 M2 N → N 24 = M11 24 → svy C R P H (fun i => N 25 i) 50 → zT g' (z2 o') mX10_ask (zQi (z2 o') (fun r N => r = AA ∧ fr2 M2 N)) 119 [(0, zA g' 1), (2, zI x2), (4, zI (-1)), (5, zI 0), (6, zI 0)] [] N := by
          intro N fN eN hv
          have hRN := fN.Ld hR
          suffices hs : ∀ (j i : Nat), i + j = m → 1 ≤ i → zT g' (z2 o') mX10_ask (zQi (z2 o') (fun r N => r = AA ∧ fr2 M2 N)) 119 [(0, zA g' 1), (2, zI x2), (4, zI (amn (fun c => akL P H c) i).2), (5, zI (amn (fun c => akL P H c) i).1), (6, zI i)] [] N by
            have lI := akL_in (P := P) (H := H) (c := 0)
            refine SX10_ask_119 (C := C) (R := R) ⟨hRN, by decide, by omega, fun h => by omega, fun _ => ⟨_, c_leftBy (c := 0) (by omega) hG (fun i a b => by rw [eN]; exact q2 i a b) hv, fun r N' hr => ⟨by decide, fun _ => ?_, fun h => absurd rfl h⟩⟩⟩
            obtain ⟨r1, r2⟩ := hr
            subst r2
            have := hs (m - 1) 1 (by omega) (by decide)
            rw [as 0, if_pos (by show akL P H 0 < 51; omega)] at this
            rw [r1]; exact this
          intro j
          induction j with
          | zero =>
            intro i hi h1i
            rw [show i = m by omega]
            exact SX10_ask_119 (C := C) (R := R) ⟨hRN, by omega, by omega, fun _ => ⟨h2, fun w => ⟨by rw [hAA, if_neg z, if_neg w], fN⟩, fun w => ⟨by rw [hAA, if_neg z, if_pos w], fN⟩⟩, fun h => by omega⟩
          | succ j ih =>
            intro i hi h1i
            have nx := ih (i + 1) (by omega) (by omega)
            have aI := ai i
            have lI := akL_in (P := P) (H := H) (c := i)
            refine SX10_ask_119 (C := C) (R := R) ⟨hRN, by omega, by omega, fun h => by omega, fun _ => ⟨_, c_leftBy (by omega) hG (fun i a b => by rw [eN]; exact q2 i a b) hv, fun r N' hr => ?_⟩⟩
            obtain ⟨r1, r2⟩ := hr
            subst r2
            rw [r1]
            refine ⟨by omega, fun w => by omega, fun w => ⟨by omega, by omega, fun u => ?_, fun u => ?_⟩⟩
            · rw [as i, if_pos (by omega)] at nx; exact nx
            · rw [as i, if_neg (by omega)] at nx; exact nx
        suffices hs : ∀ (j i : Nat) (N : zM), i + j = 50 → fr2 M2 N → N 24 = M11 24 → svy C R P H (fun i => N 25 i) i → zT g' (z2 o') mX10_ask (zQi (z2 o') (fun r N => r = AA ∧ fr2 M2 N)) 33 [(0, zA g' 1), (1, zI n), (2, zI x2), (4, zI i)] [] N from hs 50 0 M11 rfl q3 rfl (fun s h => by omega)
        intro j
        induction j with
        | zero =>
          intro i N hi hf he hv
          have e50 : i = 50 := by omega
          subst e50
          exact SX10_ask_33 ⟨by omega, fun _ => fin N hf he hv, fun h => by omega⟩
        | succ j ih =>
          intro i N hi hf he hv
          have e24 : N 24 i = zb (P i) := by rw [he]; exact q2 i (by omega) (by omega)
          have z01 := zb01 (P i)
          refine SX10_ask_33 ⟨by omega, fun h => by omega, fun _ => ⟨by omega, by omega, fun w => ⟨_, c_asTold, fun A hq => ?_⟩, fun w => ih (i + 1) N (by omega) hf he (fun s a b => ?_)⟩⟩
          · have hA : ∀ t : Int, 0 ≤ t → t < 198 → A 11 t = tld M2 i t := fun t a b => by rw [hq.1 t a b, tld_of (hf.1 3 rfl) (hf.1 7 rfl) (hf.1 8 rfl)]
            have fA : fr2 M2 A := hf.trans (go_fr (fun b _ q => hq.2 b q) (fun i _ _ _ => by rw [hq.2 1 (by decide)]))
            obtain ⟨i1, i2, z9, i3, i4⟩ := hJ.td0 (by omega) hA fA
            have e26 : A 1 26 = -1 := by rw [fA.2 26 (by decide)]; exact hJ.2.2.2.2.2.2.2.2.2.2.2.2
            have hb := c_blows (g := g') (o := o') (G := fun t => tld M2 i (96 + t)) (wd := wnr M2) n (by omega) (fA.Ld hR) i2 (by omega) (by omega) (by omega) i3 (fun t a b => hA (96 + t) (by omega) (by omega)) (fun t _ => by rw [wnr_of (fA.1 3 rfl) (fA.1 4 rfl) (fA.1 5 rfl)])
            refine ⟨_, hb, fun r M7 hr => ?_⟩
            obtain ⟨-, g2, g3, g4⟩ := hr
            have f7 : fr2 M2 M7 := fA.trans (go_fr g3.1 g3.2.1)
            have h7 : ∀ c : Int, 0 ≤ c → c < 96 → M7 11 c = H i c := fun c a b => by
              rw [g2.1.1 c a b, fA.1 3 rfl, hA 192 (by decide) (by decide), hA 193 (by decide) (by decide), hA 194 (by decide) (by decide), hA 195 (by decide) (by decide), hH]
              exact (blw_eq (S := M2 3 5) hG n i4 (fun _ _ _ => rfl)).2.1 c a b
            have b7 : ∀ c : Int, 0 ≤ c → c < 96 → 0 ≤ H i c ∧ H i c ≤ 4000 := fun c a b => by
              have := g4.1 c a b
              rw [h7 c a b] at this; omega
            have e7 : M7 24 = M11 24 := by rw [g3.1 24 (by decide) (by decide), hq.2 24 (by decide)]; exact he
            have v7 : svy C R P H (fun t => M7 25 t) i := by
              have : M7 25 = N 25 := by rw [g3.1 25 (by decide) (by decide), hq.2 25 (by decide)]
              rw [this]; exact hv
            suffices hs2 : ∀ (b a : Nat) (N8 : zM), a + b = m → (∀ t : Nat, t ≠ 25 → N8 t = M7 t) → svy C R P H (fun t => N8 25 t) i → (∀ c : Int, 0 ≤ c → c < a → N8 25 ((i : Int) * 96 + c) = H i c) → zT g' (z2 o') mX10_ask (zQi (z2 o') (fun r N => r = AA ∧ fr2 M2 N)) 69 [(0, zA g' 1), (1, zI n), (2, zI x2), (4, zI i), (6, zI a)] [] N8 from hs2 m 0 M7 (by omega) (fun _ _ => rfl) v7 (fun c a b => by omega)
            intro b
            induction b with
            | zero =>
              intro a N8 ha hb8 hv8 hc8
              have f8 : fr2 M2 N8 := f7.trans (fr2_of (l := [25]) (fs := []) (fun b _ p => hb8 b (fun e => p (by rw [e]; decide))) (fun i _ => by rw [hb8 1 (by decide)]) rfl rfl)
              refine SX10_ask_69 (C := C) (R := R) ⟨f8.Ld hR, by omega, by omega, fun _ => ih (i + 1) N8 (by omega) f8 (by rw [hb8 24 (by decide)]; exact e7) (fun s a1 a2 c c0 c1 => ?_), fun h => by omega⟩
              by_cases q : s = i
              · rw [q]; exact ⟨hc8 c c0 (by omega), b7 c c0 (by omega)⟩
              · exact hv8 s (by omega) a2 c c0 c1
            | succ b ihb =>
              intro a N8 ha hb8 hv8 hc8
              have f8 : fr2 M2 N8 := f7.trans (fr2_of (l := [25]) (fs := []) (fun b _ p => hb8 b (fun e => p (by rw [e]; decide))) (fun i _ => by rw [hb8 1 (by decide)]) rfl rfl)
              refine SX10_ask_69 (C := C) (R := R) ⟨f8.Ld hR, by omega, by omega, fun h => by omega, fun _ => ⟨by omega, by omega, ihb (a + 1) _ (by omega) (fun t ht => by rw [zu_other ht]; exact hb8 t ht) (fun s a1 a2 c c0 c1 => ?_) (fun c c0 c1 => ?_)⟩⟩
              · show zu N8 25 (96 * (i : Int) + a) (N8 11 a) 25 ((s : Int) * 96 + c) = H s c ∧ _
                rw [zu_row, if_neg (by omega)]
                exact hv8 s a1 a2 c c0 c1
              · rw [zu_row]
                by_cases q : c = a
                · rw [if_pos (by omega), hb8 11 (by decide), q]; exact h7 a (by omega) (by omega)
                · rw [if_neg (by omega)]; exact hc8 c c0 (by omega)
          · by_cases q : s = i
            · rw [q] at b; rw [zb_t b] at e24; omega
            · exact hv s (by omega) b
    · exact zE_of (A := -1) hJ hk (zki_of rfl (Nat.le_of_ble_eq_true rfl) (SX9_ask_0 ⟨h1, fun _ => ⟨rfl, fr1.rf⟩, fun _ => ⟨fun _ => ⟨rfl, fr1.rf⟩, fun _ => ⟨h2, fun _ => ⟨rfl, fr1.rf⟩, fun _ => ⟨fun h => by omega, fun _ => ⟨rfl, fr1.rf⟩⟩⟩⟩⟩)) (zki_of rfl (Nat.le_of_ble_eq_true rfl) (SX10_ask_0 ⟨h1, fun _ => ⟨rfl, fr2.rf⟩, fun _ => ⟨h2, fun _ => ⟨rfl, fr2.rf⟩, fun h => absurd h hw⟩⟩))
  · exact zE_of (A := -1) hJ hk (zki_of rfl (Nat.le_of_ble_eq_true rfl) (SX9_ask_0 ⟨h1, fun _ => ⟨rfl, fr1.rf⟩, fun _ => ⟨fun _ => ⟨rfl, fr1.rf⟩, fun h => by omega⟩⟩)) (zki_of rfl (Nat.le_of_ble_eq_true rfl) (SX10_ask_0 ⟨h1, fun _ => ⟨rfl, fr2.rf⟩, fun h => absurd h hx⟩))
end AK
