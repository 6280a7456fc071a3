/-! heights, seeds and tries don't depend on the counts, nor on what lies outside the rows -/
section CG
variable {C R S c w B T f t hop sh st bt sd sd' hp hp' : Int} {H H' G G' X X' wd : Int → Int} {z z' : Hz} {x y : Sx}
theorem eq96.rf : eq96 H H := fun _ _ _ => rfl
theorem eq96.sym (h : eq96 H H') : eq96 H' H := fun i p q => (h i p q).symm
theorem eq96.trans {H'' : Int → Int} (h : eq96 H H') (h' : eq96 H' H'') : eq96 H H'' := fun i p q => (h i p q).trans (h' i p q)
theorem pku_eq (hG : Geo C R) (hc : 0 ≤ c ∧ c < C * R) (h : eq96 H H') (m : Int) (n : Nat) : pku C R H m c n = pku C R H' m c n := by
  have hn := geo_n hG
  induction n with
  | zero => rfl
  | succ n ih =>
    have a := alg_in (w := (n : Int)) (k := 1) hG hc
    unfold pku
    rw [ih, h _ a.1 (by omega)]
theorem pkd_eq (hG : Geo C R) (hc : 0 ≤ c ∧ c < C * R) (h : eq96 H H') (m : Int) (n : Nat) : pkd C R H m c n = pkd C R H' m c n := by
  have hn := geo_n hG
  induction n with
  | zero => rfl
  | succ n ih =>
    have a := alg_in (w := (n : Int)) (k := 1) hG hc
    unfold pkd
    rw [ih, h _ a.1 (by omega)]
theorem wup_eq (hG : Geo C R) (hc : 0 ≤ c ∧ c < C * R) (h : eq96 H H') : wup C R H S c = wup C R H' S c := by
  have hn := geo_n hG
  unfold wup; rw [h c hc.1 (by omega), pku_eq hG hc h]
theorem wdn_eq (hG : Geo C R) (hc : 0 ≤ c ∧ c < C * R) (h : eq96 H H') : wdn C R H S c = wdn C R H' S c := by
  have hn := geo_n hG
  unfold wdn; rw [h c hc.1 (by omega), pkd_eq hG hc h]
theorem up_eq {v v' : Int} (h : eq96 H H') (e : v = v') : eq96 (up H c v) (up H' c v') := fun i p q => by unfold up; rw [e, h i p q]
theorem sld_eq (hf : 0 ≤ f ∧ f < 96) (ht : 0 ≤ t ∧ t < 96) (h : eq96 H H') : eq96 (sld H f t) (sld H' f t) := by
  unfold sld
  have h1 := up_eq (c := f) (v := H f - 1) (v' := H' f - 1) h (by rw [h f hf.1 hf.2])
  exact up_eq h1 (by rw [h1 t ht.1 ht.2])
theorem flz_eq (hG : Geo C R) (n : Nat) (hc : 0 ≤ c ∧ c < C * R) (h : eq96 z.1 z'.1) : eq96 (flz C R S n z c).1 (flz C R S n z' c).1 := by
  have hn := geo_n hG
  induction n generalizing z z' c with
  | zero => exact h
  | succ n ih =>
    unfold flz
    rw [wup_eq hG hc h]
    split
    · exact h
    · have a := alg_in (w := wup C R z'.1 S c) (k := 1) hG hc
      have a' := alg_in (w := opp (wup C R z'.1 S c)) (k := 1) hG a
      exact ih a (sld_eq (by omega) (by omega) h)
theorem spz_eq (hG : Geo C R) (n : Nat) (hc : 0 ≤ c ∧ c < C * R) (h : eq96 z.1 z'.1) : eq96 (spz C R S n z c).1 (spz C R S n z' c).1 := by
  have hn := geo_n hG
  induction n generalizing z z' c with
  | zero => exact h
  | succ n ih =>
    unfold spz
    rw [wdn_eq hG hc h]
    split
    · exact h
    · have a := alg_in (w := wdn C R z'.1 S c) (k := 1) hG hc
      exact ih a (sld_eq (by omega) (by omega) h)
theorem flz_out (hG : Geo C R) (n : Nat) (hc : 0 ≤ c ∧ c < C * R) {i : Int} (hi : C * R ≤ i) : (flz C R S n z c).1 i = z.1 i := by
  induction n generalizing z c with
  | zero => rfl
  | succ n ih =>
    unfold flz
    split
    · rfl
    · have a := alg_in (w := wup C R z.1 S c) (k := 1) hG hc
      have a' := alg_in (w := opp (wup C R z.1 S c)) (k := 1) hG a
      rw [ih a]; exact sld_o (by omega) (by omega)
theorem spz_out (hG : Geo C R) (n : Nat) (hc : 0 ≤ c ∧ c < C * R) {i : Int} (hi : C * R ≤ i) : (spz C R S n z c).1 i = z.1 i := by
  induction n generalizing z c with
  | zero => rfl
  | succ n ih =>
    unfold spz
    split
    · rfl
    · have a := alg_in (w := wdn C R z.1 S c) (k := 1) hG hc
      rw [ih a]; exact sld_o (by omega) (by omega)
theorem fly_eq (hG : Geo C R) (n : Nat) (hc : 0 ≤ c ∧ c < C * R) (h : eq96 H H') : (fly C R w hop H sh st bt n c sd X hp).1 = (fly C R w hop H' sh st bt n c sd X' hp').1 ∧ (fly C R w hop H sh st bt n c sd X hp).2.1 = (fly C R w hop H' sh st bt n c sd X' hp').2.1 := by
  have hn := geo_n hG
  induction n generalizing c sd X X' hp hp' with
  | zero => exact ⟨rfl, rfl⟩
  | succ n ih =>
    have a := alg_in (w := w) (k := hop) hG hc
    unfold fly
    rw [zb_congr (or_congr Iff.rfl (shd_eq hG a h)), h _ a.1 (by omega)]
    generalize (if 0 < H' (alg C R c w hop) then st else bt) = qq
    split
    · exact ⟨rfl, rfl⟩
    · split
      · exact ⟨rfl, rfl⟩
      · exact ih a
/-- alike in heights, seed and tries -/
def xeq (x y : Sx) : Prop := eq96 x.1.1 y.1.1 ∧ x.2.2 = y.2.2
theorem try_eq (hG : Geo C R) (h : xeq x y) (hg : eq96 G G') : (tryB C R wd G sh x ↔ tryB C R wd G' sh y) ∧ xeq (tryS C R S wd G hop sh st bt x) (tryS C R S wd G' hop sh st bt y) := by
  have hn := geo_n hG
  obtain ⟨h1, h2⟩ := h
  have c1 := md (C := C * R) (k := dsd y.2.2.1) (by omega)
  have hb : tryB C R wd G sh x ↔ tryB C R wd G' sh y := by
    unfold tryB; rw [h2]; exact yld_eq hG c1 h1 hg
  refine ⟨hb, ?_⟩
  unfold tryS
  rw [zb_congr hb]
  split
  · have hz : eq96 (tryZ C R S x).1 (tryZ C R S y).1 := by
      unfold tryZ
      rw [h2]
      exact flz_eq hG 96 c1 (up_eq h1 (by rw [h1 _ c1.1 (by omega)]))
    have hy : (tryY C R S wd hop sh st bt x).1 = (tryY C R S wd hop sh st bt y).1 ∧ (tryY C R S wd hop sh st bt x).2.1 = (tryY C R S wd hop sh st bt y).2.1 := by
      unfold tryY
      rw [h2]
      exact fly_eq hG 20 c1 hz
    have fi : 0 ≤ (tryY C R S wd hop sh st bt y).1 ∧ (tryY C R S wd hop sh st bt y).1 < C * R := (fly_in hG 20 c1 (dsd_in _)).1
    refine ⟨?_, ?_⟩
    · show eq96 (spz C R S 96 _ (tryY C R S wd hop sh st bt x).1).1 (spz C R S 96 _ (tryY C R S wd hop sh st bt y).1).1
      rw [hy.1]
      exact spz_eq hG 96 fi (up_eq hz (by rw [hz _ fi.1 (by omega)]))
    · show ((tryY C R S wd hop sh st bt x).2.1, x.2.2.2 + 1) = ((tryY C R S wd hop sh st bt y).2.1, y.2.2.2 + 1)
      rw [hy.2, h2]
  · refine ⟨h1, ?_⟩
    show (dsd x.2.2.1, x.2.2.2 + 1) = (dsd y.2.2.1, y.2.2.2 + 1)
    rw [h2]
theorem blw_eq (hG : Geo C R) (n : Nat) (h : xeq x y) (hg : eq96 G G') : blwN C R S wd G hop sh st bt n x = blwN C R S wd G' hop sh st bt n y ∧ xeq (blwS C R S wd G hop sh st bt n x) (blwS C R S wd G' hop sh st bt n y) := by
  induction n generalizing x y with
  | zero => exact ⟨rfl, h⟩
  | succ n ih =>
    have t := try_eq (S := S) (wd := wd) (hop := hop) (sh := sh) (st := st) (bt := bt) hG h hg
    have i := ih t.2
    refine ⟨?_, i.2⟩
    show zb _ + _ = zb _ + _
    rw [zb_congr t.1, i.1]
theorem try_out (hG : Geo C R) {i : Int} (hi : C * R ≤ i) : (tryS C R S wd G hop sh st bt x).1.1 i = x.1.1 i := by
  have hn := geo_n hG
  have c1 := md (C := C * R) (k := dsd x.2.2.1) (by omega)
  unfold tryS
  split
  · have fi : 0 ≤ (tryY C R S wd hop sh st bt x).1 ∧ (tryY C R S wd hop sh st bt x).1 < C * R := (fly_in hG 20 c1 (dsd_in _)).1
    show (spz C R S 96 _ _).1 i = _
    rw [spz_out hG 96 fi hi]
    show up _ _ _ i = _
    rw [up_ne (by omega)]
    unfold tryZ
    rw [flz_out hG 96 c1 hi]
    show up _ _ _ i = _
    rw [up_ne (by omega)]
  · rfl
theorem blw_out (hG : Geo C R) (n : Nat) {i : Int} (hi : C * R ≤ i) : (blwS C R S wd G hop sh st bt n x).1.1 i = x.1.1 i := by
  induction n generalizing x with
  | zero => rfl
  | succ n ih =>
    show (blwS C R S wd G hop sh st bt n _).1.1 i = _
    rw [ih, try_out hG hi]
/-- slabs put on a cell, one by one -/
def ptz (C R S c : Int) : Nat → Hz → Hz
  | 0, z => z
  | n + 1, z => ptz C R S c n (spz C R S 96 (up z.1 c (z.1 c + 1), z.2.1, z.2.2) c)
theorem ptz_eq (hG : Geo C R) (n : Nat) (hc : 0 ≤ c ∧ c < C * R) (h : eq96 z.1 z'.1) : eq96 (ptz C R S c n z).1 (ptz C R S c n z').1 := by
  have hn := geo_n hG
  induction n generalizing z z' with
  | zero => exact h
  | succ n ih => exact ih (spz_eq hG 96 hc (up_eq h (by rw [h c hc.1 (by omega)])))
theorem ptz_out (hG : Geo C R) (n : Nat) (hc : 0 ≤ c ∧ c < C * R) {i : Int} (hi : C * R ≤ i) : (ptz C R S c n z).1 i = z.1 i := by
  induction n generalizing z with
  | zero => rfl
  | succ n ih =>
    show (ptz C R S c n _).1 i = _
    rw [ih, spz_out hG 96 hc hi]
    show up _ _ _ i = _
    rw [up_ne (by omega)]
theorem ptz_bd (hG : Geo C R) (hS : 1 ≤ S) (n : Nat) (hc : 0 ≤ c ∧ c < C * R) (hB : BdB B z.1) : BdB (B + n) (ptz C R S c n z).1 := by
  have hn := geo_n hG
  induction n generalizing z B with
  | zero => exact hB.le (by omega)
  | succ n ih =>
    have b := hB c hc.1 (by omega)
    have := ih (B := B + 1) (z := spz C R S 96 (up z.1 c (z.1 c + 1), z.2.1, z.2.2) c) (spz_bd hG hS 96 _ c hc (up_bd (hB.le (by omega)) (by omega)))
    exact this.le (by omega)
end CG
