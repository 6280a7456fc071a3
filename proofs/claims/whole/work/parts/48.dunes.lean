/-- dunes of a level: labels and number -/
noncomputable def dn (C R : Int) (H : Int → Int) (lv : Int) : (Int → Int) × Int := joi (fun c => lv ≤ H c) (T4 C R) 4 (C * R).toNat
/-- the first cell of a label -/
def fcl (L : Int → Int) (d : Int) : Nat → Int
  | 0 => -1
  | k + 1 => if fcl L d k = -1 then (if L k = d then k else -1) else fcl L d k
/-- its top -/
def tpl (L H : Int → Int) (d : Int) : Nat → Int
  | 0 => -1
  | k + 1 => if L k = d ∧ (tpl L H d k = -1 ∨ H (tpl L H d k) < H k) then k else tpl L H d k
def lnf (C : Int) (col : Int) (c : Int) : Int := if col = 0 then c / C else c % C
section DA
variable {g g' : zG} {o o' : Bool} {M M' M1 M2 N1 N2 : zM} {k C R c d m x y lv x1 x2 x3 : Int} {h2 b : Nat} {L H H' : Int → Int}
theorem fr1.Ld (h : fr1 M1 M) (hL : zLand M1 C R) : zLand M C R := hL.of (fun b p q => h.1 b (by unfold zk1; simp only [Bool.or_eq_true, Bool.and_eq_true, decide_eq_true_eq]; omega))
theorem fr2.Ld (h : fr2 M2 M) (hL : zRf M2 C R) : zRf M C R := hL.of (h.1 3 rfl) (h.1 4 rfl) (h.1 5 rfl)
theorem rlF.fr (h : rlF M M' 13) : fr2 M M' := fr2_of (l := [15, 13]) (fs := [33]) (fun b p q => h.1 b p (fun e => q (by rw [e]; decide)) (fun e => q (by rw [e]; decide))) (fun i hi => h.2 i (fun e => hi (by rw [e]; decide))) rfl rfl
theorem rlF.fr4 (h : rlF M M' 14) : fr2 M M' := fr2_of (l := [15, 14]) (fs := [33]) (fun b p q => h.1 b p (fun e => q (by rw [e]; decide)) (fun e => q (by rw [e]; decide))) (fun i hi => h.2 i (fun e => hi (by rw [e]; decide))) rfl rfl
theorem dn_cg (hG : Geo C R) (h : ∀ c : Int, 0 ≤ c → c < C * R → (lv ≤ H c ↔ x ≤ H' c)) : dn C R H lv = dn C R H' x := joi_cg hG h (fun d hd j => T4_in hG hd j) _ (Nat.le_refl _)
theorem dn_lab (hG : Geo C R) (c : Int) : (dn C R H lv).1 c = -1 ∨ (0 ≤ (dn C R H lv).1 c ∧ (dn C R H lv).1 c < (dn C R H lv).2 ∧ lv ≤ H c) := joi_lab _ c
theorem dn_in (hG : Geo C R) (h0 : 0 ≤ c) (h1 : c < C * R) (h : lv ≤ H c) : (dn C R H lv).1 c ≠ -1 := by
  obtain ⟨n, hn⟩ := znn h0
  subst hn
  exact joi_in _ (by omega) h
theorem dn_nn (hG : Geo C R) : 0 ≤ (dn C R H lv).2 ∧ (dn C R H lv).2 ≤ C * R := by
  have hn := geo_n hG
  have := joi_nn (P := fun c => lv ≤ H c) (T := T4 C R) (K := 4) (C * R).toNat
  unfold dn; omega
theorem dn_ex (hG : Geo C R) (h0 : 0 ≤ d) (h1 : d < (dn C R H lv).2) : ∃ c : Int, (0 ≤ c ∧ c < C * R) ∧ (dn C R H lv).1 c = d := by
  have hn := geo_n hG
  obtain ⟨c, hc, e⟩ := joi_ex _ h0 h1
  exact ⟨c, by omega, e⟩
theorem Jt.jl (hJ : Jt k C R M1 M2) (hf : fr1 M1 M) (hlv : -2147483648 ≤ lv ∧ lv ≤ 2147483647) : zKv g (z1 o) mX3_joinLevel [zA g 127, zA g 25, zI lv] M (fun M' => lmJ M' 127 C R (dn C R (M2 10) lv) ∧ frl [127, 128, 129, 130] M M') := by
  have hn := geo_n hJ.lr.1.1
  have e25 : M 25 = M1 25 := hf.1 25 rfl
  refine zkv_mono (c_joinLevel (P := fun c => lv ≤ M2 10 c) (h1 := 25) (n1 := 96) (Or.inl rfl) (hf.Ld hJ.lr.1) rfl (by decide) (by decide) (by decide) (by decide) hlv (fun d a1 a2 => ?_)) (fun M' h => ⟨h.1, fun b hb => ?_⟩)
  · have b := hJ.ok.1 d a1 (by omega)
    rw [e25, hJ.eh d a1 (by omega)]
    exact ⟨Iff.rfl, by omega, by omega⟩
  · have hb' : b ≠ 127 ∧ b ≠ 128 ∧ b ≠ 129 ∧ b ≠ 130 := by simp at hb; omega
    exact h.2 b hb'.1 hb'.2.1 hb'.2.2.1 hb'.2.2.2
theorem Jt.dnow (hJ : Jt k C R M1 M2) (hf : fr2 M2 M) (hlv : -2147483648 ≤ lv ∧ lv ≤ 2147483647) : zKi g (z2 o) mX10_dunesNow [zA g 1, zI lv] M (fun r M' => r = (dn C R (M2 10) lv).2 ∧ (∀ c : Int, 0 ≤ c → c < C * R → M' 13 c = (dn C R (M2 10) lv).1 c) ∧ rlF M M' 13) := by
  have hn := geo_n hJ.lr.1.1
  have e10 : M 10 = M2 10 := hf.1 10 rfl
  refine zki_of rfl (Nat.le_of_ble_eq_true rfl) (SX10_dunesNow_0 ⟨_, c_laysDunes (P := fun c => lv ≤ M2 10 c) (h1 := 10) (n1 := 198) (h4 := 13) (hf.Ld hJ.lr.2) rfl (by decide) (by decide) (Or.inl rfl) hlv (fun d a1 a2 => ?_), fun r M' h => h⟩)
  have b := hJ.ok.1 d a1 (by omega)
  rw [e10, Int.zero_add]
  exact ⟨⟨Iff.rfl, by omega, by omega⟩, by omega, by omega⟩
theorem p_dunes (hJ : Jt k C R M1 M2) (hk : k < 1000) (h1 : -2147483648 ≤ x1 ∧ x1 ≤ 2147483647) : zE g g' o o' mX9_dunes mX10_dunes [zI x1] k M1 M2 := by
  refine zE_of (A := if 1 ≤ x1 then (dn C R (M2 10) x1).2 else -1) hJ hk (zki_of rfl (Nat.le_of_ble_eq_true rfl) (SX9_dunes_0 ⟨h1, fun h => ⟨_, hJ.jl fr1.rf h1, fun M4 hq => ⟨?_, hq.2.fr1 rfl⟩⟩, fun h => ⟨?_, fr1.rf⟩⟩)) (zki_of rfl (Nat.le_of_ble_eq_true rfl) (SX10_dunes_0 ⟨h1, fun h => ⟨_, hJ.dnow fr2.rf h1, fun r M4 hq => ⟨?_, hq.2.2.fr⟩⟩, fun h => ⟨?_, fr2.rf⟩⟩))
  · rw [if_pos h]; exact hq.1.2
  · rw [if_neg h]
  · rw [if_pos h]; exact hq.1
  · rw [if_neg h]
theorem p_duneOf (hJ : Jt k C R M1 M2) (hk : k < 1000) (h1 : -2147483648 ≤ x1 ∧ x1 ≤ 2147483647) (h2 : -2147483648 ≤ x2 ∧ x2 ≤ 2147483647) : zE g g' o o' mX9_duneOf mX10_duneOf [zI x1, zI x2] k M1 M2 := by
  obtain ⟨hL, hR⟩ := hJ.lr
  have hn := geo_n hL.1
  refine zE_of (A := if 1 ≤ x1 ∧ 0 ≤ x2 ∧ x2 < C * R then (dn C R (M2 10) x1).1 x2 else -1) hJ hk (zki_of rfl (Nat.le_of_ble_eq_true rfl) (SX9_duneOf_0 (C := C) (R := R) ⟨h1, fun h => ⟨?_, fr1.rf⟩, fun h => ⟨h2, hL, fun hc => ⟨_, hJ.jl fr1.rf h1, fun M4 hq => ⟨by omega, ?_, hq.2.fr1 rfl⟩⟩, fun hc => ⟨?_, fr1.rf⟩⟩⟩)) (zki_of rfl (Nat.le_of_ble_eq_true rfl) (SX10_duneOf_0 (C := C) (R := R) ⟨h1, fun h => ⟨?_, fr2.rf⟩, fun h => ⟨hR, h2, fun hc => ⟨_, hJ.dnow fr2.rf h1, fun r M4 hq => ⟨by omega, ?_, hq.2.2.fr⟩⟩, fun hc => ⟨?_, fr2.rf⟩⟩⟩))
  · rw [if_neg (by omega)]
  · rw [if_pos (by omega)]; exact hq.1.1 x2 hc.1 hc.2
  · rw [if_neg (by omega)]
  · rw [if_neg (by omega)]
  · rw [if_pos (by omega)]; exact hq.2.1 x2 hc.1 hc.2
  · rw [if_neg (by omega)]
/-! one dune -/
theorem fcl_in (n : Nat) : -1 ≤ fcl L d n ∧ fcl L d n < n := by
  induction n with
  | zero => exact ⟨Int.le_refl _, by show (-1 : Int) < ((0 : Nat) : Int); omega⟩
  | succ n ih => unfold fcl; split <;> (try split) <;> omega
theorem fcl_stay (n j : Nat) (h : fcl L d n ≠ -1) : fcl L d (n + j) = fcl L d n := by
  induction j with
  | zero => rfl
  | succ j ih =>
    show (if fcl L d (n + j) = -1 then (if L ((n + j : Nat) : Int) = d then ((n + j : Nat) : Int) else -1) else fcl L d (n + j)) = _
    rw [ih, if_neg h]
theorem fcl_cg {L' : Int → Int} (n : Nat) (h : ∀ c : Int, 0 ≤ c → c < n → L c = L' c) : fcl L d n = fcl L' d n := by
  induction n with
  | zero => rfl
  | succ n ih => unfold fcl; rw [ih (fun c a b => h c a (by omega)), h n (by omega) (by omega)]
theorem c_firstCell (hb : zLu b) (hL : zLand M C R) (hl : ∀ c : Int, 0 ≤ c → c < C * R → M (b + 3) c = L c ∧ -1 ≤ L c ∧ L c ≤ 96) (hd : -1 ≤ d ∧ d ≤ 96) : zKi g (z1 o) mX3_firstCell [zA g b, zI d] M (fun r M' => r = (if d = -1 then -1 else fcl L d (C * R).toNat) ∧ M' = M) := by
  have hn := geo_n hL.1
  have e14 : M 14 2 = C * R := hL.2.2.2.1
  obtain ⟨n, hnn⟩ := znn (show 0 ≤ C * R by omega)
  rw [show (C * R).toNat = n by omega]
  refine zki_of rfl (Nat.le_of_ble_eq_true rfl) (SX3_firstCell_0 hb ?_)
  suffices hs : ∀ (j i : Nat), i + j = n → (d ≠ -1 → fcl L d i = -1) → zT g (z1 o) mX3_firstCell (zQi (z1 o) (fun r M' => r = (if d = -1 then -1 else fcl L d n) ∧ M' = M)) 2 [(0, zA g b), (1, zI d), (2, zI i)] [] M from hs n 0 (by omega) (fun _ => rfl)
  intro j
  induction j with
  | zero =>
    intro i hi hf
    refine SX3_firstCell_2 hb ⟨by omega, by omega, fun _ => ⟨?_, rfl⟩, fun h => by omega⟩
    by_cases e : d = -1
    · rw [if_pos e]
    · rw [if_neg e, ← hf e, show i = n by omega]
  | succ j ih =>
    intro i hi hf
    have l := hl i (by omega) (by omega)
    refine SX3_firstCell_2 hb ⟨by omega, by omega, fun h => by omega, fun _ => ⟨by omega, fun h => ih (i + 1) (by omega) (fun q => absurd h q), fun h => ⟨by omega, by omega, fun h' => ?_, fun h' => ⟨?_, rfl⟩⟩⟩⟩
    · refine ih (i + 1) (by omega) (fun _ => ?_)
      unfold fcl; rw [if_pos (hf h), if_neg (by rw [← l.1]; exact h')]
    · rw [if_neg h]
      have e : fcl L d (i + 1) = i := by unfold fcl; rw [if_pos (hf h), if_pos (by rw [← l.1]; exact h')]
      have := fcl_stay (L := L) (d := d) (i + 1) j (by rw [e]; omega)
      rw [show i + 1 + j = n by omega] at this
      rw [this, e]
theorem c_size (hb : zLu b) (hL : zLand M C R) (hl : ∀ c : Int, 0 ≤ c → c < C * R → M (b + 3) c = L c ∧ -1 ≤ L c ∧ L c ≤ 96) (hd : -1 ≤ d ∧ d ≤ 96) : zKi g (z1 o) mX3_size [zA g b, zI d] M (fun r M' => r = cnt (fun c => L c = d) (C * R).toNat ∧ M' = M) := by
  have hn := geo_n hL.1
  have e14 : M 14 2 = C * R := hL.2.2.2.1
  obtain ⟨n, hnn⟩ := znn (show 0 ≤ C * R by omega)
  rw [show (C * R).toNat = n by omega]
  refine zki_of rfl (Nat.le_of_ble_eq_true rfl) (SX3_size_0 hb ?_)
  refine zup (fun i => zT g (z1 o) mX3_size (zQi (z1 o) (fun r M' => r = cnt (fun c => L c = d) n ∧ M' = M)) 4 [(0, zA g b), (1, zI d), (2, zI (cnt (fun c => L c = d) i)), (3, zI i)] [] M) n (SX3_size_4 hb ⟨by omega, by omega, fun _ => ⟨rfl, rfl⟩, fun h => by omega⟩) (fun i hi ih => ?_)
  have l := hl i (by omega) (by omega)
  refine SX3_size_4 hb ⟨by omega, by omega, fun h => by omega, fun _ => ⟨by omega, by omega, by omega, fun h => ?_, fun h => ?_⟩⟩
  · rw [cnt_skip (by rw [← l.1]; exact h)] at ih; exact ih
  · rw [cnt_take (P := fun c => L c = d) (by show L i = d; rw [← l.1]; exact h)] at ih; exact ih
def slf (L H : Int → Int) (d : Int) : Int → Int := fun c => if L c = d then H c else 0
theorem smt_skip {f : Int → Int} {k : Nat} (e : f k = 0) : smt f (k + 1) = smt f k := by show smt f k + f k = _; rw [e]; omega
theorem smt_take {f : Int → Int} {k : Nat} {v : Int} (e : f k = v) : smt f (k + 1) = smt f k + v := by show smt f k + f k = _; rw [e]
theorem c_slabsOf (hL : zLand M C R) (hl : ∀ c : Int, 0 ≤ c → c < C * R → (M 130 c = L c ∧ -1 ≤ L c ∧ L c ≤ 96) ∧ M 25 c = H c) (hd : -1 ≤ d ∧ d ≤ 96) : zKi g (z1 o) mX9_slabsOf [zA g 1, zI d] M (fun r M' => r = smt (slf L H d) (C * R).toNat ∧ M' = M) := by
  have hn := geo_n hL.1
  have e14 : M 14 2 = C * R := hL.2.2.2.1
  obtain ⟨n, hnn⟩ := znn (show 0 ≤ C * R by omega)
  rw [show (C * R).toNat = n by omega]
  refine zki_of rfl (Nat.le_of_ble_eq_true rfl) (SX9_slabsOf_0 ?_)
  refine zup (fun i => zT g (z1 o) mX9_slabsOf (zQi (z1 o) (fun r M' => r = smt (slf L H d) n ∧ M' = M)) 4 [(0, zA g 1), (1, zI d), (2, zI (smt (slf L H d) i)), (3, zI i)] [] M) n (SX9_slabsOf_4 ⟨by omega, by omega, fun _ => ⟨rfl, rfl⟩, fun h => by omega⟩) (fun i hi ih => ?_)
  have l := hl i (by omega) (by omega)
  refine SX9_slabsOf_4 ⟨by omega, by omega, fun h => by omega, fun _ => ⟨by omega, by omega, by omega, fun h => ?_, fun h => ?_⟩⟩
  · rw [smt_skip (f := slf L H d) (if_neg (by rw [← l.1.1]; exact h))] at ih; exact ih
  · rw [smt_take (f := slf L H d) (v := M 25 i) (by rw [l.2]; exact if_pos (by rw [← l.1.1]; exact h))] at ih; exact ih
theorem tpl_in (n : Nat) : -1 ≤ tpl L H d n ∧ tpl L H d n < n := by
  induction n with
  | zero => exact ⟨Int.le_refl _, by show (-1 : Int) < ((0 : Nat) : Int); omega⟩
  | succ n ih => unfold tpl; split <;> omega
theorem tpl_t {i : Nat} (h : L i = d ∧ (tpl L H d i = -1 ∨ H (tpl L H d i) < H i)) : tpl L H d (i + 1) = i := by
  show (if _ then _ else _) = _; rw [if_pos h]
theorem tpl_f {i : Nat} (h : ¬ (L i = d ∧ (tpl L H d i = -1 ∨ H (tpl L H d i) < H i))) : tpl L H d (i + 1) = tpl L H d i := by
  show (if _ then _ else _) = _; rw [if_neg h]
theorem tpl_ne {n : Nat} {c : Int} (h0 : 0 ≤ c) (h1 : c < n) (h : L c = d) : tpl L H d n ≠ -1 := by
  induction n with
  | zero => omega
  | succ n ih =>
    by_cases q : L n = d ∧ (tpl L H d n = -1 ∨ H (tpl L H d n) < H n)
    · rw [tpl_t q]; omega
    · rw [tpl_f q]
      by_cases e : c = n
      · exact fun hh => q ⟨by rw [← e]; exact h, Or.inl hh⟩
      · exact ih (by omega)
theorem c_peakOf (hL : zLand M C R) (hl : ∀ c : Int, 0 ≤ c → c < C * R → (M 130 c = L c ∧ -1 ≤ L c ∧ L c ≤ 96) ∧ M 25 c = H c ∧ (0 ≤ H c ∧ H c ≤ 1000000) ∧ (L c = d → 1 ≤ H c)) (hd : -1 ≤ d ∧ d ≤ 96) (hne : tpl L H d (C * R).toNat ≠ -1) : zKi g (z1 o) mX9_peakOf [zA g 1, zI d] M (fun r M' => r = tpl L H d (C * R).toNat ∧ M' = M) := by
  have hn := geo_n hL.1
  have e14 : M 14 2 = C * R := hL.2.2.2.1
  obtain ⟨n, hnn⟩ := znn (show 0 ≤ C * R by omega)
  rw [show (C * R).toNat = n by omega] at hne ⊢
  refine zki_of rfl (Nat.le_of_ble_eq_true rfl) (SX9_peakOf_0 ?_)
  refine zup (fun i => zT g (z1 o) mX9_peakOf (zQi (z1 o) (fun r M' => r = tpl L H d n ∧ M' = M)) 7 [(0, zA g 1), (1, zI d), (2, zI (if tpl L H d i = -1 then 0 else tpl L H d i)), (3, zI (if tpl L H d i = -1 then 0 else H (tpl L H d i))), (4, zI i)] [] M) n (SX9_peakOf_7 ⟨by omega, by omega, fun _ => ⟨by rw [if_neg hne], rfl⟩, fun h => by omega⟩) (fun i hi ih => ?_)
  obtain ⟨l1, l2, l3, l4⟩ := hl i (by omega) (by omega)
  have ti := tpl_in (L := L) (H := H) (d := d) i
  have tH : (0 : Int) ≤ (if tpl L H d i = -1 then 0 else H (tpl L H d i)) ∧ (if tpl L H d i = -1 then 0 else H (tpl L H d i)) ≤ (1000000 : Int) := by
    split
    · omega
    · exact (hl _ (by omega) (by omega)).2.2.1
  refine SX9_peakOf_7 ⟨by omega, by omega, fun h => by omega, fun _ => ⟨by omega, by omega, by omega, fun h => ?_, fun h => ⟨by omega, by omega, fun h' => ?_, fun h' => ?_⟩⟩⟩
  · rw [tpl_f (fun q => h (by rw [l1.1]; exact q.1))] at ih; exact ih
  · have hLi : L i = d := by rw [← l1.1]; exact h
    have hp := l4 hLi
    have : ¬ (L i = d ∧ (tpl L H d i = -1 ∨ H (tpl L H d i) < H i)) := by
      rintro ⟨-, q | q⟩
      · rw [if_pos q] at h'; omega
      · by_cases e : tpl L H d i = -1
        · rw [if_pos e] at h'; omega
        · rw [if_neg e] at h'; omega
    rw [tpl_f this] at ih; exact ih
  · have hLi : L i = d := by rw [← l1.1]; exact h
    have ht : L i = d ∧ (tpl L H d i = -1 ∨ H (tpl L H d i) < H i) := by
      refine ⟨hLi, ?_⟩
      by_cases e : tpl L H d i = -1
      · exact Or.inl e
      · rw [if_neg e] at h'; exact Or.inr (by omega)
    rw [tpl_t ht, if_neg (by omega), if_neg (by omega)] at ih
    rw [l2]; exact ih
theorem cnt_mono1 {P P' : Int → Prop} {n : Nat} (h : ∀ i : Int, 0 ≤ i → i < n → (P i → P' i)) : cnt P n ≤ cnt P' n := cnt_le h
theorem cnt_out {P : Int → Prop} {n m : Nat} (h : n ≤ m) (hz : ∀ i : Int, n ≤ i → i < m → ¬ P i) : cnt P m = cnt P n := by
  induction m with
  | zero => rw [show n = 0 by omega]
  | succ m ih =>
    by_cases e : n = m + 1
    · rw [e]
    · rw [cnt_skip (hz m (by omega) (by omega)), ih (by omega) (fun i a b => hz i a (by omega))]
/-- lines that a label has cells in, up to a cell -/
def lns (L ln : Int → Int) (d : Int) (k : Nat) (i : Int) : Prop := ∃ c : Int, 0 ≤ c ∧ c < k ∧ L c = d ∧ ln c = i
theorem c_linesOf (hL : zLand M C R) {ln : Int → Int} (hh : zh (z1 o) h2 = (1, 96)) (hz : h2 ≠ 0) (hne : h2 ≠ 149) (hl : ∀ c : Int, 0 ≤ c → c < C * R → (M 130 c = L c ∧ -1 ≤ L c ∧ L c ≤ 96) ∧ M h2 c = ln c ∧ 0 ≤ ln c ∧ ln c < 96) (hd : -1 ≤ d ∧ d ≤ 96) : zKi g (z1 o) mX9_linesOf [zA g 1, zI d, zA g h2] M (fun r M' => r = cnt (lns L ln d (C * R).toNat) 96 ∧ frl [149] M M') := by
  have hn := geo_n hL.1
  obtain ⟨n, hnn⟩ := znn (show 0 ≤ C * R by omega)
  rw [show (C * R).toNat = n by omega]
  refine zki_of rfl (Nat.le_of_ble_eq_true rfl) (SX9_linesOf_0 hh hz ⟨_, c_fill (n := 96) rfl (by decide) (by decide), fun M3 hq => ?_⟩)
  have c0 : cnt (lns L ln d 0) 96 = 0 := by
    have : ∀ j : Nat, cnt (lns L ln d 0) j = 0 := fun j => by
      induction j with
      | zero => rfl
      | succ j ih => rw [cnt_skip (fun ⟨c, a, b, _⟩ => by omega), ih]
    exact this 96
  suffices hs : ∀ (j i : Nat) (M1 : zM), i + j = n → (∀ x : Int, 0 ≤ x → x < 96 → M1 149 x = zb (lns L ln d i x)) → frl [149] M M1 → zT g (z1 o) mX9_linesOf (zQi (z1 o) (fun r M' => r = cnt (lns L ln d n) 96 ∧ frl [149] M M')) 13 [(0, zA g 1), (1, zI d), (2, zA g h2), (3, zI (cnt (lns L ln d i) 96)), (4, zI i)] [] M1 by
    have := hs n 0 M3 (by omega) (fun x a b => by rw [hq, zrw_row, if_pos ⟨a, by omega⟩, zb_f (fun ⟨c, a, b, _⟩ => by omega)]) (fun b hb => by rw [hq, zrw_other (by simpa using hb)])
    rw [c0] at this; exact this
  intro j
  induction j with
  | zero =>
    intro i M1 hi ht hF
    have e14 : M1 14 2 = C * R := by rw [hF 14 (by decide)]; exact hL.2.2.2.1
    rw [show i = n by omega]
    exact SX9_linesOf_13 hh hz ⟨by omega, by omega, fun _ => ⟨rfl, hF⟩, fun h => by omega⟩
  | succ j ih =>
    intro i M1 hi ht hF
    have e14 : M1 14 2 = C * R := by rw [hF 14 (by decide)]; exact hL.2.2.2.1
    obtain ⟨l1, l2, l3⟩ := hl i (by omega) (by omega)
    have e130 : M1 130 i = L i := by rw [hF 130 (by decide)]; exact l1.1
    have eh : M1 h2 i = ln i := by rw [hF h2 (by simpa using hne)]; exact l2
    have t1 := ht (ln i) l3.1 l3.2
    have h01 := zb01 (lns L ln d i (ln i))
    have stay : (∀ x : Int, lns L ln d (i + 1) x ↔ lns L ln d i x) → zT g (z1 o) mX9_linesOf (zQi (z1 o) (fun r M' => r = cnt (lns L ln d n) 96 ∧ frl [149] M M')) 13 [(0, zA g 1), (1, zI d), (2, zA g h2), (3, zI (cnt (lns L ln d i) 96)), (4, zI ((i : Int) + 1))] [] M1 := fun he => by
      have := ih (i + 1) M1 (by omega) (fun x a b => by rw [ht x a b, zb_congr (he x)]) hF
      rw [cnt_congr (fun x _ _ => he x)] at this; exact this
    refine SX9_linesOf_13 hh hz ⟨by omega, by omega, fun h => by omega, fun _ => ⟨by omega, by omega, by omega, fun h => stay (fun x => ⟨?_, ?_⟩), fun h => ⟨by omega, by rw [eh]; omega, fun h' => stay (fun x => ⟨?_, ?_⟩), fun h' => ?_⟩⟩⟩
    · rintro ⟨c, a, b, p, q⟩
      by_cases e : c = i
      · exact absurd (by rw [e130, ← e]; exact p) h
      · exact ⟨c, a, by omega, p, q⟩
    · rintro ⟨c, a, b, p, q⟩; exact ⟨c, a, by omega, p, q⟩
    · rintro ⟨c, a, b, p, q⟩
      by_cases e : c = i
      · rw [eh] at h'
        have : lns L ln d i (ln i) := by rcases h01 with q | q <;> first | omega | exact zb_1.mp q
        rw [← q, e]; exact this
      · exact ⟨c, a, by omega, p, q⟩
    · rintro ⟨c, a, b, p, q⟩; exact ⟨c, a, by omega, p, q⟩
    · rw [eh] at h' ⊢
      have hno : ¬ lns L ln d i (ln i) := zb_0.mp (by omega)
      have hyes : lns L ln d (i + 1) (ln i) := ⟨i, by omega, by omega, by rw [← e130]; exact h, rfl⟩
      have hoth : ∀ x : Int, x ≠ ln i → (lns L ln d i x ↔ lns L ln d (i + 1) x) := fun x hx => by
        constructor
        · rintro ⟨c, a, b, p, q⟩; exact ⟨c, a, by omega, p, q⟩
        · rintro ⟨c, a, b, p, q⟩
          refine ⟨c, a, ?_, p, q⟩
          have : c ≠ i := fun e => hx (by rw [← q, e])
          omega
      have ec := cnt_up (n := 96) l3.1 (by omega) hno hyes hoth
      have := ih (i + 1) (zu M1 149 (ln i) 1) (by omega) (fun x a b => by
        rw [zu_row]
        by_cases e : x = ln i
        · rw [if_pos e, e, zb_t hyes]
        · rw [if_neg e, ht x a b, zb_congr (hoth x e)]) (hF.trans (fun b hb => zu_other (by simpa using hb)))
      rw [ec] at this; exact this
end DA
