/-- a loop upward -/
theorem zup (F : Nat → Prop) (N : Nat) (last : F N) (step : ∀ k, k < N → F (k + 1) → F k) : F 0 := by
  have h : ∀ n k, k + n = N → F k := by
    intro n
    induction n with
    | zero => intro k hk; rw [show k = N by omega]; exact last
    | succ n ih => intro k hk; exact step k (by omega) (ih (k + 1) (by omega))
  exact h N 0 (by omega)
def rEq (M : zM) (s : Nat) (f : Int → Int) : Prop := (∀ i : Int, 0 ≤ i → i < 96 → M (s + 1) i = f i) ∧ (∀ i : Int, 0 ≤ i → i < 96 → M (s + 2) i = f (96 + i)) ∧ (∀ i : Int, 0 ≤ i → i < 4 → M (s + 3) i = f (192 + i)) ∧ M s 3 = f 196 ∧ M s 4 = f 197
def rOK (C R B T : Int) (f : Int → Int) : Prop := BdB B f ∧ (∀ i : Int, 0 ≤ i → i < 96 → 0 ≤ f (96 + i) ∧ f (96 + i) ≤ 1) ∧ (1 ≤ f 192 ∧ f 192 ≤ 6) ∧ (1 ≤ f 193 ∧ f 193 ≤ 9) ∧ (0 ≤ f 194 ∧ f 194 ≤ 16) ∧ (0 ≤ f 195 ∧ f 195 ≤ 16) ∧ (0 ≤ f 196 ∧ f 196 ≤ 10006) ∧ (0 ≤ f 197 ∧ f 197 ≤ T) ∧ ∀ i : Int, C * R ≤ i → i < 96 → f i = 0
/-- two rows alike -/
def eqr (f f' : Int → Int) : Prop := ∀ i : Int, 0 ≤ i → i < 198 → f i = f' i
/-- the field as told, by a seed -/
def tld (M : zM) (sd : Int) : Int → Int := fun i => if i < 96 then M 8 i else if i < 192 then M 7 (i - 96) else if i = 192 then M 3 3 else if i = 193 then M 3 4 else if i = 194 then M 3 6 else if i = 195 then M 3 7 else if i = 196 then sd else 0
/-- row k of a large one -/
def rwk (f : Int → Int) (k : Int) : Int → Int := fun i => f (198 * k + i)
/-- the addresses of kept states -/
def zhs : List Nat := [38, 42, 46, 50, 54, 58, 62, 66, 70, 74, 78, 82, 86, 90, 94, 98, 102, 106, 110, 114, 118]
def jHp (M1 : zM) (p : Nat → Nat) : Prop := (∀ i : Nat, i < 21 → M1 37 (i : Int) = (p i : Int) ∧ p i ∈ zhs) ∧ ∀ i j : Nat, i < 21 → j < 21 → p i = p j → i = j
def jHs (B T C R : Int) (M1 M2 : zM) (p : Nat → Nat) (d u : Nat) : Prop := (∀ i : Nat, i < d → rEq M1 (p i) (rwk (M2 12) i) ∧ rOK C R B T (rwk (M2 12) i)) ∧ (∀ i : Nat, d ≤ i → i < d + u → rEq M1 (p (i + 1)) (rwk (M2 12) i) ∧ rOK C R B T (rwk (M2 12) i)) ∧ rEq M1 (p d) (M2 10)
def jH (B T C R : Int) (M1 M2 : zM) : Prop := ∃ (p : Nat → Nat) (d u : Nat), M1 36 1 = d ∧ M2 1 28 = d ∧ M1 36 2 = u ∧ M2 1 29 = u ∧ d + u ≤ 20 ∧ jHp M1 p ∧ jHs B T C R M1 M2 p d u
def jB (B T C R : Int) (M1 M2 : zM) : Prop := ∀ b : Nat, b < 3 → M1 135 (b : Int) = ((136 + 4 * b : Nat) : Int) ∧ M1 148 (b : Int) = M2 17 (b : Int) ∧ (M2 17 (b : Int) = 0 ∨ M2 17 (b : Int) = 1) ∧ (M2 17 (b : Int) = 1 → rEq M1 (136 + 4 * b) (rwk (M2 16) b) ∧ rOK C R B T (rwk (M2 16) b))
/-- heights, slides, lines; hops; seed; tries: of a row, all counts 0 -/
def x0 (f : Int → Int) : Sx := ((f, 0, fun _ => 0), 0, f 196, f 197)
/-- what n tries make of a row -/
noncomputable def blR (C R S : Int) (wd f : Int → Int) (n : Nat) : Sx := blwS C R S wd (fun i => f (96 + i)) (f 192) (f 193) (f 194) (f 195) n (x0 f)
noncomputable def blM (C R S : Int) (wd f : Int → Int) (n : Nat) : Int := blwN C R S wd (fun i => f (96 + i)) (f 192) (f 193) (f 194) (f 195) n (x0 f)
/-- is a seed fit for what was seen as number i -/
noncomputable def sFit (C R : Int) (M2 : zM) (i s : Int) : Prop := (M2 20 i ≤ (blR C R (M2 3 5) (wnr M2) (tld M2 s) (M2 18 i).toNat).1.1 (M2 19 i)) ↔ M2 21 i = 1
def jS (C R : Int) (M1 M2 : zM) : Prop := ∃ n : Nat, M1 122 8 = n ∧ M2 1 42 = n ∧ n ≤ 20 ∧ ∀ i : Int, 0 ≤ i → i < n → M1 123 i = M2 22 i ∧ (0 ≤ M2 22 i ∧ M2 22 i ≤ 100000) ∧ M1 124 i = M2 23 i ∧ (-1 ≤ M2 23 i ∧ M2 23 i ≤ 100000) ∧ (0 ≤ M2 18 i ∧ M2 18 i ≤ 200) ∧ (0 ≤ M2 19 i ∧ M2 19 i < C * R) ∧ (0 ≤ M2 20 i ∧ M2 20 i ≤ 2147483647) ∧ (M2 21 i = 0 ∨ M2 21 i = 1) ∧ (0 ≤ M1 125 i ∧ M1 125 i < 1125899906842624) ∧ ∀ s : Nat, s < 50 → (M1 125 i / (2 ^ s : Nat) % 2 = 1 ↔ sFit C R M2 i s)
def jL (C R : Int) (M1 M2 : zM) : Prop := zLand M1 C R ∧ zRf M2 C R ∧ M2 3 5 = M1 14 3 ∧ M2 3 9 = M1 14 4 ∧ ∀ i : Int, 0 ≤ i → i < M1 14 4 → M2 4 i = M1 18 i ∧ M2 5 i = M1 19 i
def jT (C R : Int) (M1 M2 : zM) : Prop := rEq M1 20 (tld M2 (M2 3 8)) ∧ rOK C R 3000 0 (tld M2 (M2 3 8))
def jN (B T C R : Int) (M1 M2 : zM) : Prop := rEq M1 24 (M2 10) ∧ rOK C R B T (M2 10)
def jP (M1 M2 : zM) : Prop := M1 2 1 = M2 1 1 ∧ (0 ≤ M2 1 1 ∧ M2 1 1 ≤ 900) ∧ ∀ i : Int, 0 ≤ i → i < M2 1 1 → M1 3 i = M2 2 i ∧ 0 ≤ M2 2 i ∧ M2 2 i ≤ 255
def jC (M1 M2 : zM) : Prop := M1 1 15 = M2 1 43 ∧ (0 ≤ M2 1 43 ∧ M2 1 43 ≤ 100000) ∧ M1 7 2 = M2 1 9 ∧ M1 7 3 = M2 1 10 ∧ M2 1 26 = -1
def Jt (k C R : Int) (M1 M2 : zM) : Prop := (0 ≤ k ∧ k ≤ 1000) ∧ jL C R M1 M2 ∧ jN (3000 + 600 * k) (600 * k) C R M1 M2 ∧ jT C R M1 M2 ∧ jH (3000 + 600 * k) (600 * k) C R M1 M2 ∧ jB (3000 + 600 * k) (600 * k) C R M1 M2 ∧ jS C R M1 M2 ∧ jP M1 M2 ∧ jC M1 M2
def zE (g g' : zG) (o o' : Bool) (d d' : zD) (as : List Value) (k : Int) (M1 M2 : zM) : Prop := ∃ q q' : Int → zM → Prop, zKi g (z1 o) d (zA g 1 :: as) M1 q ∧ zKi g' (z2 o') d' (zA g' 1 :: as) M2 q' ∧ ∀ (r : Int) (N1 : zM) (r' : Int) (N2 : zM), q r N1 → q' r' N2 → r = r' ∧ ∃ C R, Jt (k + 1) C R N1 N2
section JJ
variable {g g' : zG} {o o' : Bool} {M1 M2 N1 N2 M M' : zM} {x y w c k t S C R B T B' T' : Int} {H H' G f f' : Int → Int} {s : Nat}
theorem rOK.mono (h : rOK C R B T f) (hB : B ≤ B') (hT : T ≤ T') : rOK C R B' T' f := by
  obtain ⟨a1, a2, a3, a4, a5, a6, a7, a8, a9⟩ := h
  exact ⟨a1.le hB, a2, a3, a4, a5, a6, a7, ⟨a8.1, by omega⟩, a9⟩
theorem rOK.of (h : rOK C R B T f) (hG : Geo C R) (e : eqr f f') : rOK C R B T f' := by
  obtain ⟨a1, a2, a3, a4, a5, a6, a7, a8, a9⟩ := h
  have hn := geo_n hG
  refine ⟨fun i h0 h1 => ?_, fun i h0 h1 => ?_, ?_, ?_, ?_, ?_, ?_, ?_, fun i h0 h1 => ?_⟩
  · rw [← e i h0 (by omega)]; exact a1 i h0 h1
  · rw [← e (96 + i) (by omega) (by omega)]; exact a2 i h0 h1
  · rw [← e 192 (by decide) (by decide)]; exact a3
  · rw [← e 193 (by decide) (by decide)]; exact a4
  · rw [← e 194 (by decide) (by decide)]; exact a5
  · rw [← e 195 (by decide) (by decide)]; exact a6
  · rw [← e 196 (by decide) (by decide)]; exact a7
  · rw [← e 197 (by decide) (by decide)]; exact a8
  · rw [← e i (by omega) (by omega)]; exact a9 i h0 h1
theorem rEq.of (h : rEq M s f) (e : eqr f f') : rEq M s f' :=
  ⟨fun i h0 h1 => (h.1 i h0 h1).trans (e i h0 (by omega)), fun i h0 h1 => (h.2.1 i h0 h1).trans (e _ (by omega) (by omega)), fun i h0 h1 => (h.2.2.1 i h0 h1).trans (e _ (by omega) (by omega)), h.2.2.2.1.trans (e 196 (by decide) (by decide)), h.2.2.2.2.trans (e 197 (by decide) (by decide))⟩
theorem rEq.fr (h : rEq M s f) (e0 : M' s = M s) (e1 : M' (s + 1) = M (s + 1)) (e2 : M' (s + 2) = M (s + 2)) (e3 : M' (s + 3) = M (s + 3)) : rEq M' s f := by
  unfold rEq; rw [e0, e1, e2, e3]; exact h
theorem rEq.sd (h : rEq M s f) (hO : rOK C R B T f) : SandOK M s B T := by
  obtain ⟨a1, a2, a3, a4, a5, a6, a7, a8, -⟩ := hO
  obtain ⟨b1, b2, b3, b4, b5⟩ := h
  refine ⟨fun i h0 h1 => by rw [b1 i h0 h1]; exact a1 i h0 h1, fun i h0 h1 => by rw [b2 i h0 h1]; exact a2 i h0 h1, ?_, ?_, ?_, ?_, ?_, ?_⟩
  · rw [b3 0 (by decide) (by decide)]; exact a3
  · rw [b3 1 (by decide) (by decide)]; exact a4
  · rw [b3 2 (by decide) (by decide)]; exact a5
  · rw [b3 3 (by decide) (by decide)]; exact a6
  · rw [b4]; exact a7
  · rw [b5]; exact a8
theorem rOK.rf (h : rOK C R B T f) (e : eqr f (M 11)) : RefOK M B T := by
  obtain ⟨a1, a2, a3, a4, a5, a6, a7, a8, -⟩ := h
  unfold RefOK
  rw [← e 192 (by decide) (by decide), ← e 193 (by decide) (by decide), ← e 194 (by decide) (by decide), ← e 195 (by decide) (by decide), ← e 196 (by decide) (by decide), ← e 197 (by decide) (by decide)]
  exact ⟨fun i h0 h1 => by rw [← e i h0 (by omega)]; exact a1 i h0 h1, fun i h0 h1 => by rw [← e _ (by omega) (by omega)]; exact a2 i h0 h1, a3, a4, a5, a6, a7, a8⟩
theorem rEq.same {t : Nat} (h : rEq M t f) (e : zsame M M' s t) : rEq M' s f :=
  ⟨fun i h0 h1 => (e.1 i h0 h1).1.trans (h.1 i h0 h1), fun i h0 h1 => (e.1 i h0 h1).2.trans (h.2.1 i h0 h1), fun i h0 h1 => (e.2.1 i h0 h1).trans (h.2.2.1 i h0 h1), e.2.2.1.trans h.2.2.2.1, e.2.2.2.trans h.2.2.2.2⟩
theorem jL.wq (h : jL C R M1 M2) : wnr M2 = wnd M1 := by
  obtain ⟨hl, hr, -, hw, hi⟩ := h
  obtain ⟨-, -, -, -, -, hn, hrd, hws, -⟩ := hl
  obtain ⟨n, hnn⟩ : ∃ n : Nat, M1 14 4 = (n : Int) := znn (by omega)
  have hs : smt (M2 5) n = smt (M1 19) n := smt_congr (fun i h0 h1 => (hi i h0 (by omega)).2)
  funext t
  unfold wnr wnd
  rw [hw, hnn, Int.toNat_natCast, hs, hrd, hnn, Int.toNat_natCast]
  have key : ∀ (m : Nat) (i l : Int), 0 ≤ i → i + m = n → wix (M2 5) m i l = wix (M1 19) m i l := by
    intro m
    induction m with
    | zero => intro i l _ _; rfl
    | succ m ih =>
      intro i l h0 h1
      show (if _ then _ else _) = (if _ then _ else _)
      rw [(hi i h0 (by omega)).2, ih (i + 1) _ (by omega) (by omega)]
  rw [key n 0 _ (by omega) (by omega)]
  have hpos : 1 ≤ smt (M1 19) n := by
    cases n with
    | zero => omega
    | succ k =>
      have h1 := smt_nn (f := M1 19) (n := k) (fun i h0 h1 => by have := hws i h0 (by omega); omega)
      have h2 := hws k (by omega) (by omega)
      show 1 ≤ smt (M1 19) k + M1 19 k
      omega
  have hmod := md (C := smt (M1 19) n) (k := t) (by omega)
  have hx := wix_lt (sp := M1 19) (n := n) (i := 0) (l := t % smt (M1 19) n) (fun j h1 h2 => (hws j h1 (by omega)).2.1) hmod.1 (by simpa using hmod.2)
  exact (hi _ hx.1 (by omega)).1
theorem jL.fr (h : jL C R M1 M2) (e1 : ∀ b : Nat, 14 ≤ b → b ≤ 19 → N1 b = M1 b) (e2 : ∀ b : Nat, 3 ≤ b → b ≤ 5 → N2 b = M2 b) : jL C R N1 N2 := by
  obtain ⟨a, b, c, d, e⟩ := h
  refine ⟨a.of e1, b.of (e2 3 (by decide) (by decide)) (e2 4 (by decide) (by decide)) (e2 5 (by decide) (by decide)), ?_⟩
  rw [e1 14 (by decide) (by decide), e1 18 (by decide) (by decide), e1 19 (by decide) (by decide), e2 3 (by decide) (by decide), e2 4 (by decide) (by decide), e2 5 (by decide) (by decide)]
  exact ⟨c, d, e⟩
theorem jN.fr (h : jN B T C R M1 M2) (e1 : ∀ b : Nat, 24 ≤ b → b ≤ 27 → N1 b = M1 b) (e2 : N2 10 = M2 10) (hB : B ≤ B') (hT : T ≤ T') : jN B' T' C R N1 N2 := by
  unfold jN
  rw [e2]
  exact ⟨h.1.fr (e1 24 (by decide) (by decide)) (e1 25 (by decide) (by decide)) (e1 26 (by decide) (by decide)) (e1 27 (by decide) (by decide)), h.2.mono hB hT⟩
theorem tld_of (e3 : N2 3 = M2 3) (e7 : N2 7 = M2 7) (e8 : N2 8 = M2 8) : tld N2 = tld M2 := by
  funext s i; unfold tld; rw [e3, e7, e8]
theorem jT.fr (h : jT C R M1 M2) (e1 : ∀ b : Nat, 20 ≤ b → b ≤ 23 → N1 b = M1 b) (e3 : N2 3 = M2 3) (e7 : N2 7 = M2 7) (e8 : N2 8 = M2 8) : jT C R N1 N2 := by
  unfold jT
  rw [tld_of e3 e7 e8, e3]
  exact ⟨h.1.fr (e1 20 (by decide) (by decide)) (e1 21 (by decide) (by decide)) (e1 22 (by decide) (by decide)) (e1 23 (by decide) (by decide)), h.2⟩
theorem zhs_in {b : Nat} (h : b ∈ zhs) : 38 ≤ b ∧ b ≤ 118 ∧ zSd b := by
  have : ∀ b ∈ zhs, 38 ≤ b ∧ b ≤ 118 ∧ b ∈ zsds := by decide
  exact this b h
theorem jH.fr (h : jH B T C R M1 M2) (e1 : ∀ b : Nat, 36 ≤ b → b ≤ 121 → N1 b = M1 b) (e10 : N2 10 = M2 10) (e12 : N2 12 = M2 12) (e28 : N2 1 28 = M2 1 28) (e29 : N2 1 29 = M2 1 29) (hB : B ≤ B') (hT : T ≤ T') : jH B' T' C R N1 N2 := by
  obtain ⟨p, d, u, h1, h2, h3, h4, h5, h6, h7, h8, h9⟩ := h
  have key : ∀ i : Nat, i < 21 → ∀ f, rEq M1 (p i) f → rEq N1 (p i) f := fun i hi f hf => by
    have := zhs_in (h6.1 i hi).2
    exact hf.fr (e1 _ (by omega) (by omega)) (e1 _ (by omega) (by omega)) (e1 _ (by omega) (by omega)) (e1 _ (by omega) (by omega))
  refine ⟨p, d, u, by rw [e1 36 (by decide) (by decide)]; exact h1, by rw [e28]; exact h2, by rw [e1 36 (by decide) (by decide)]; exact h3, by rw [e29]; exact h4, h5, ⟨by rw [e1 37 (by decide) (by decide)]; exact h6.1, h6.2⟩, fun i hi => ?_, fun i hi hj => ?_, by rw [e10]; exact key d (by omega) _ h9⟩
  · rw [e12]; exact ⟨key i (by omega) _ (h7 i hi).1, (h7 i hi).2.mono hB hT⟩
  · rw [e12]; exact ⟨key (i + 1) (by omega) _ (h8 i hi hj).1, (h8 i hi hj).2.mono hB hT⟩
theorem jB.fr (h : jB B T C R M1 M2) (e1 : ∀ b : Nat, 135 ≤ b → b ≤ 148 → N1 b = M1 b) (e16 : N2 16 = M2 16) (e17 : N2 17 = M2 17) (hB : B ≤ B') (hT : T ≤ T') : jB B' T' C R N1 N2 := by
  intro b hb
  obtain ⟨a1, a2, a3, a4⟩ := h b hb
  rw [e1 135 (by decide) (by decide), e1 148 (by decide) (by decide), e16, e17]
  refine ⟨a1, a2, a3, fun h => ⟨(a4 h).1.fr (e1 _ (by omega) (by omega)) (e1 _ (by omega) (by omega)) (e1 _ (by omega) (by omega)) (e1 _ (by omega) (by omega)), (a4 h).2.mono hB hT⟩⟩
theorem jS.fr (h : jS C R M1 M2) (e1 : ∀ b : Nat, 122 ≤ b → b ≤ 125 → N1 b = M1 b) (e2 : ∀ b : Nat, 18 ≤ b → b ≤ 23 → N2 b = M2 b) (e3 : ∀ b : Nat, 3 ≤ b → b ≤ 5 → N2 b = M2 b) (e7 : N2 7 = M2 7) (e8 : N2 8 = M2 8) (e42 : N2 1 42 = M2 1 42) : jS C R N1 N2 := by
  obtain ⟨n, a1, a2, a3, a4⟩ := h
  refine ⟨n, by rw [e1 122 (by decide) (by decide)]; exact a1, by rw [e42]; exact a2, a3, fun i h0 h1 => ?_⟩
  have ht := tld_of (N2 := N2) (M2 := M2) (e3 3 (by decide) (by decide)) e7 e8
  have hw := wnr_of (M' := N2) (M := M2) (e3 3 (by decide) (by decide)) (e3 4 (by decide) (by decide)) (e3 5 (by decide) (by decide))
  unfold sFit
  rw [ht, hw, e1 123 (by decide) (by decide), e1 124 (by decide) (by decide), e1 125 (by decide) (by decide), e2 18 (by decide) (by decide), e2 19 (by decide) (by decide), e2 20 (by decide) (by decide), e2 21 (by decide) (by decide), e2 22 (by decide) (by decide), e2 23 (by decide) (by decide), e3 3 (by decide) (by decide)]
  exact a4 i h0 h1
theorem jP.fr (h : jP M1 M2) (e1 : N1 2 1 = M1 2 1) (e3 : N1 3 = M1 3) (e2 : N2 2 = M2 2) (e4 : N2 1 1 = M2 1 1) : jP N1 N2 := by
  unfold jP; rw [e1, e3, e2, e4]; exact h
theorem jC.fr (h : jC M1 M2) (e1 : N1 1 15 = M1 1 15) (e2 : N1 7 2 = M1 7 2) (e3 : N1 7 3 = M1 7 3) (e4 : N2 1 43 = M2 1 43) (e5 : N2 1 9 = M2 1 9) (e6 : N2 1 10 = M2 1 10) (e7 : N2 1 26 = M2 1 26) : jC N1 N2 := by
  unfold jC; rw [e1, e2, e3, e4, e5, e6, e7]; exact h
end JJ
/-- what lasts from call to call -/
def zk1 (b : Nat) : Bool := b = 1 || b = 3 || (14 ≤ b && b ≤ 27) || (36 ≤ b && b ≤ 125) || (135 ≤ b && b ≤ 148)
def zk2 (b : Nat) : Bool := (2 ≤ b && b ≤ 5) || b = 7 || b = 8 || b = 10 || b = 12 || (16 ≤ b && b ≤ 23)
def zk3 (i : Int) : Bool := i = 1 || i = 9 || i = 10 || i = 26 || i = 28 || i = 29 || i = 42 || i = 43
def fr1 (M M' : zM) : Prop := (∀ b : Nat, zk1 b = true → M' b = M b) ∧ M' 2 1 = M 2 1 ∧ M' 7 2 = M 7 2 ∧ M' 7 3 = M 7 3
def fr2 (M M' : zM) : Prop := (∀ b : Nat, zk2 b = true → M' b = M b) ∧ ∀ i : Int, zk3 i = true → M' 1 i = M 1 i
section JF
variable {M1 M2 N1 N2 M M' M'' : zM} {k C R i x : Int} {a : Nat} {f : Int → Int}
theorem fr1.rf : fr1 M M := ⟨fun _ _ => rfl, rfl, rfl, rfl⟩
theorem fr2.rf : fr2 M M := ⟨fun _ _ => rfl, fun _ _ => rfl⟩
theorem fr1.trans (h : fr1 M M') (h' : fr1 M' M'') : fr1 M M'' := ⟨fun b hb => (h'.1 b hb).trans (h.1 b hb), h'.2.1.trans h.2.1, h'.2.2.1.trans h.2.2.1, h'.2.2.2.trans h.2.2.2⟩
theorem fr2.trans (h : fr2 M M') (h' : fr2 M' M'') : fr2 M M'' := ⟨fun b hb => (h'.1 b hb).trans (h.1 b hb), fun i hi => (h'.2 i hi).trans (h.2 i hi)⟩
/-- rows in a list alone are changed -/
def frl (l : List Nat) (M M' : zM) : Prop := ∀ b : Nat, b ∉ l → M' b = M b
theorem frl.fr1 {l : List Nat} (h : frl l M M') (hl : (l.all fun b => !(zk1 b) && (b != 2) && (b != 7)) = true) : fr1 M M' := by
  have h1 : ∀ b ∈ l, (!(zk1 b) && (b != 2) && (b != 7)) = true := List.all_eq_true.mp hl
  refine ⟨fun b hb => h b (fun hm => ?_), ?_, ?_, ?_⟩
  · have := h1 b hm; simp [hb] at this
  · rw [h 2 (fun hm => by have := h1 2 hm; simp at this)]
  · rw [h 7 (fun hm => by have := h1 7 hm; simp at this)]
  · rw [h 7 (fun hm => by have := h1 7 hm; simp at this)]
theorem fr2_of {l : List Nat} {fs : List Int} (h : ∀ b : Nat, b ≠ 1 → b ∉ l → M' b = M b) (hf : ∀ i : Int, i ∉ fs → M' 1 i = M 1 i) (hl : (l.all fun b => !(zk2 b)) = true) (hs : (fs.all fun i => !(zk3 i)) = true) : fr2 M M' := by
  have h1 : ∀ b ∈ l, (!(zk2 b)) = true := List.all_eq_true.mp hl
  have h2 : ∀ i ∈ fs, (!(zk3 i)) = true := List.all_eq_true.mp hs
  refine ⟨fun b hb => h b (fun e => by rw [e] at hb; exact absurd hb (by decide)) (fun hm => ?_), fun i hi => hf i (fun hm => ?_)⟩
  · have := h1 b hm; simp [hb] at this
  · have := h2 i hm; simp [hi] at this
theorem Jt.step (h : Jt k C R M1 M2) (hk : k < 1000) (f1 : fr1 M1 N1) (f2 : fr2 M2 N2) : Jt (k + 1) C R N1 N2 := by
  obtain ⟨a0, a1, a2, a3, a4, a5, a6, a7, a8⟩ := h
  have r1 : ∀ lo hi : Nat, (∀ b : Nat, lo ≤ b → b ≤ hi → zk1 b = true) → ∀ b : Nat, lo ≤ b → b ≤ hi → N1 b = M1 b := fun lo hi hh b p q => f1.1 b (hh b p q)
  have z : ∀ b : Nat, (14 ≤ b ∧ b ≤ 27) ∨ (36 ≤ b ∧ b ≤ 125) ∨ (135 ≤ b ∧ b ≤ 148) → N1 b = M1 b := fun b hb => f1.1 b (by unfold zk1; simp only [Bool.or_eq_true, Bool.and_eq_true, decide_eq_true_eq]; omega)
  have y : ∀ b : Nat, (2 ≤ b ∧ b ≤ 5) ∨ (16 ≤ b ∧ b ≤ 23) → N2 b = M2 b := fun b hb => f2.1 b (by unfold zk2; simp only [Bool.or_eq_true, Bool.and_eq_true, decide_eq_true_eq]; omega)
  exact ⟨by omega, a1.fr (fun b p q => z b (by omega)) (fun b p q => y b (by omega)), a2.fr (fun b p q => z b (by omega)) (f2.1 10 rfl) (by omega) (by omega), a3.fr (fun b p q => z b (by omega)) (y 3 (by omega)) (f2.1 7 rfl) (f2.1 8 rfl),
    a4.fr (fun b p q => z b (by omega)) (f2.1 10 rfl) (f2.1 12 rfl) (f2.2 28 (by decide)) (f2.2 29 (by decide)) (by omega) (by omega), a5.fr (fun b p q => z b (by omega)) (y 16 (by omega)) (y 17 (by omega)) (by omega) (by omega),
    a6.fr (fun b p q => z b (by omega)) (fun b p q => y b (by omega)) (fun b p q => y b (by omega)) (f2.1 7 rfl) (f2.1 8 rfl) (f2.2 42 (by decide)), a7.fr f1.2.1 (f1.1 3 rfl) (y 2 (by omega)) (f2.2 1 (by decide)), a8.fr (by rw [f1.1 1 rfl]) f1.2.2.1 f1.2.2.2 (f2.2 43 (by decide)) (f2.2 9 (by decide)) (f2.2 10 (by decide)) (f2.2 26 (by decide))⟩
end JF
