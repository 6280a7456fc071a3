/-! field -/
/-- both sides, one behind the other -/
def zEs (g g' : zG) (o o' : Bool) (d d' : zD) (as : List Value) (k : Int) (M1 M2 : zM) : Prop := ∃ q : Int → zM → Prop, zKi g (z1 o) d (zA g 1 :: as) M1 q ∧ ∀ (r : Int) (N1 : zM), q r N1 → ∃ q' : Int → zM → Prop, zKi g' (z2 o') d' (zA g' 1 :: as) M2 q' ∧ ∀ (r' : Int) (N2 : zM), q' r' N2 → r = r' ∧ ∃ C R, Jt (k + 1) C R N1 N2
section FI
variable {g g' : zG} {o o' : Bool} {d d' : zD} {as : List Value} {M N N0 M' M0 M1 M2 N1 N2 X Y Yf Z : zM} {k L v C R n x : Int} {b : Int → Int} {pos : Nat → Int} {T : Nat} {s : Rs}
theorem zE.seq (h : zE g g' o o' d d' as k M1 M2) : zEs g g' o o' d d' as k M1 M2 := by
  obtain ⟨q, q', h1, h2, h3⟩ := h
  exact ⟨q, h1, fun r N1 hr => ⟨q', h2, fun r' N2 hr' => h3 r N1 r' N2 hr hr'⟩⟩
theorem c_begins : zKv g (z2 o) mX10_begins [zA g 1] M (fun N => bgP N ∧ lF M N ∧ ∀ i : Int, i ≠ 19 → i ≠ 20 → N 1 i = M 1 i) := by
  refine zkv_of rfl (Nat.le_of_ble_eq_true rfl) (SX10_begins_0 (fun N1 e1 N3 e3 N5 e5 N7 e7 N9 e9 N11 e11 N13 e13 N15 e15 N17 e17 N19 e19 N21 e21 => ?_))
  have r3 : ∀ j : Int, zu N21 5 8 1 3 j = if j = 19 then 1 else if j = 18 then 0 else if j = 17 then 6 else if j = 16 then 10 else if j = 15 then 2 else if j = 14 then 2 else if j = 13 then 2 else if j = 12 then 3 else if j = 11 then 4 else if j = 10 then 8 else M 3 j := fun j => by
    rw [zu_other (by decide), e21, zu_other (by decide), e19, zu_row, e17, zu_row, e15, zu_row, e13, zu_row, e11, zu_row, e9, zu_row, e7, zu_row, e5, zu_row, e3, zu_row, e1, zu_row]
  have ro : ∀ c : Nat, c ≠ 3 → N19 c = M c := fun c hc => by
    rw [e19, zu_other hc, e17, zu_other hc, e15, zu_other hc, e13, zu_other hc, e11, zu_other hc, e9, zu_other hc, e7, zu_other hc, e5, zu_other hc, e3, zu_other hc, e1, zu_other hc]
  have r4 : ∀ j : Int, zu N21 5 8 1 4 j = if j = 8 then 0 else M 4 j := fun j => by rw [zu_other (by decide), e21, zu_row, ro 4 (by decide)]
  have r5 : ∀ j : Int, zu N21 5 8 1 5 j = if j = 8 then 1 else M 5 j := fun j => by rw [zu_row, e21, zu_other (by decide), ro 5 (by decide)]
  have rc : ∀ c : Nat, c ≠ 3 → c ≠ 4 → c ≠ 5 → zu N21 5 8 1 c = M c := fun c h3 h4 h5 => by rw [zu_other h5, e21, zu_other h4, ro c h3]
  generalize zu N21 5 8 1 = B at *
  -- the flags
  have lp2 : ∀ (f i : Nat) (P : zM), i + f = 8 → (∀ j : Int, 0 ≤ j → j < i → P 9 j = 0) → (∀ c : Nat, c ≠ 6 → c ≠ 7 → c ≠ 9 → P c = B c) → (∀ c : Int, 0 ≤ c → c < 96 → P 6 (96 + c) = 0 ∧ P 7 (96 + c) = 0) → (∀ j : Int, j < 96 → P 6 j = M 6 j ∧ P 7 j = M 7 j) → zT g (z2 o) mX10_begins (zQv (z2 o) (fun N => bgP N ∧ lF M N ∧ ∀ i : Int, i ≠ 19 → i ≠ 20 → N 1 i = M 1 i)) 135 [(0, zA g 1), (1, zI (i : Int))] [] P := by
    intro f
    induction f with
    | zero =>
      intro i P hi h9 hc h67 hl
      refine SX10_begins_135 ⟨by omega, fun _ N2 e2 => ?_, fun z => by omega⟩
      have p1 : P 1 = M 1 := (hc 1 (by decide) (by decide) (by decide)).trans (rc 1 (by decide) (by decide) (by decide))
      have n1 : ∀ j : Int, zu N2 1 20 0 1 j = if j = 20 then 0 else if j = 19 then 0 else M 1 j := fun j => by rw [zu_row, e2, zu_row, p1]
      have no : ∀ c : Nat, c ≠ 1 → zu N2 1 20 0 c = P c := fun c hc' => by rw [zu_other hc', e2, zu_other hc']
      have n3 : zu N2 1 20 0 3 = B 3 := (no 3 (by decide)).trans (hc 3 (by decide) (by decide) (by decide))
      have n4 : zu N2 1 20 0 4 = B 4 := (no 4 (by decide)).trans (hc 4 (by decide) (by decide) (by decide))
      have n5 : zu N2 1 20 0 5 = B 5 := (no 5 (by decide)).trans (hc 5 (by decide) (by decide) (by decide))
      refine ⟨⟨?_, ?_, ?_, fun c c0 c1 => ?_, fun j j0 j1 => ?_, ?_, ?_⟩, ⟨fun c hc' => ?_, fun j hj => ?_, fun j hj => ⟨?_, ?_⟩, fun j hj => ?_, fun j hj => ?_⟩, fun j h19 h20 => ?_⟩
      · rw [n3, r3, r3, r3, r3, r3, r3, r3, r3, r3, r3]; simp
      · rw [n4, r4, if_pos rfl]
      · rw [n5, r5, if_pos rfl]
      · rw [no 6 (by decide), no 7 (by decide)]; exact h67 c c0 c1
      · rw [no 9 (by decide)]; exact h9 j j0 (by omega)
      · rw [n1, if_neg (by decide), if_pos rfl]
      · rw [n1, if_pos rfl]
      · rw [no c (by omega), hc c (by omega) (by omega) (by omega), rc c (by omega) (by omega) (by omega)]
      · rw [n3, r3, if_neg (by omega), if_neg (by omega), if_neg (by omega), if_neg (by omega), if_neg (by omega), if_neg (by omega), if_neg (by omega), if_neg (by omega), if_neg (by omega), if_neg (by omega)]
      · rw [n4, r4, if_neg (by omega)]
      · rw [n5, r5, if_neg (by omega)]
      · rw [no 6 (by decide), no 7 (by decide)]; exact hl j hj
      · rw [n1, if_neg (by omega), if_neg (by omega)]
      · rw [n1, if_neg h20, if_neg h19]
    | succ f ih =>
      intro i P hi h9 hc h67 hl
      refine SX10_begins_135 ⟨by omega, fun z => by omega, fun _ => ⟨by omega, ih (i + 1) _ (by omega) (fun j j0 j1 => ?_) (fun c c6 c7 c9 => ?_) (fun c c0 c1 => ?_) (fun j hj => ?_)⟩⟩
      · rw [zu_row]
        by_cases q : j = i
        · rw [if_pos q]
        · rw [if_neg q]; exact h9 j j0 (by omega)
      · rw [zu_other c9]; exact hc c c6 c7 c9
      · rw [zu_other (by decide), zu_other (by decide)]; exact h67 c c0 c1
      · rw [zu_other (by decide), zu_other (by decide)]; exact hl j hj
  have lp1 : ∀ (f i : Nat) (P : zM), i + f = 96 → (∀ c : Int, 0 ≤ c → c < i → P 6 (96 + c) = 0 ∧ P 7 (96 + c) = 0) → (∀ c : Nat, c ≠ 6 → c ≠ 7 → P c = B c) → (∀ j : Int, j < 96 → P 6 j = M 6 j ∧ P 7 j = M 7 j) → zT g (z2 o) mX10_begins (zQv (z2 o) (fun N => bgP N ∧ lF M N ∧ ∀ i : Int, i ≠ 19 → i ≠ 20 → N 1 i = M 1 i)) 101 [(0, zA g 1), (1, zI (i : Int))] [] P := by
    intro f
    induction f with
    | zero =>
      intro i P hi h67 hc hl
      exact SX10_begins_101 ⟨by omega, fun _ => lp2 8 0 P (by decide) (fun j j0 j1 => by omega) (fun c c6 c7 _ => hc c c6 c7) (fun c c0 c1 => h67 c c0 (by omega)) hl, fun z => by omega⟩
    | succ f ih =>
      intro i P hi h67 hc hl
      refine SX10_begins_101 ⟨by omega, fun z => by omega, fun _ => ⟨by omega, fun N3' e => ih (i + 1) _ (by omega) (fun c c0 c1 => ?_) (fun c c6 c7 => ?_) (fun j hj => ?_)⟩⟩
      · rw [zu_other (by decide), zu_row, e, zu_row, zu_other (by decide)]
        by_cases q : c = i
        · rw [if_pos (by omega), if_pos (by omega)]; exact ⟨rfl, rfl⟩
        · rw [if_neg (by omega), if_neg (by omega)]; exact h67 c c0 (by omega)
      · rw [zu_other c7, e, zu_other c6]; exact hc c c6 c7
      · rw [zu_other (by decide), zu_row, if_neg (by omega), e, zu_row, if_neg (by omega), zu_other (by decide)]; exact hl j hj
  exact lp1 96 0 B (by decide) (fun c c0 c1 => by omega) (fun _ _ _ => rfl) (fun j _ => ⟨by rw [rc 6 (by decide) (by decide) (by decide)], by rw [rc 7 (by decide) (by decide) (by decide)]⟩)
/-- the first token -/
theorem r_first (hT : TS b L N0 pos T) (hB : RBx b L M) (h3 : M 1 3 = 0) (h7 : M 1 7 = 0) (h8 : M 1 8 = -1) : zKv g (z2 o) mX10_goOn [zA g 1] M (fun N => RLk N0 pos T (0, 0, -1) N ∧ pF M N) := by
  obtain ⟨⟨v, w', t1, t2, t3⟩, t4⟩ := hT.2.2.1 0 (Nat.zero_le _)
  rw [hT.1] at t1 t4
  refine zkv_mono (c_goOn hB.1 hB.2.1 hB.2.2 h3 t4) (fun N h => ?_)
  obtain ⟨⟨v2, w2, g1, g2, g3⟩, g4⟩ := h
  obtain ⟨u1, u2, u3, u4, u5⟩ := Tok_u t1 g1
  have n7 : N 1 7 = 0 := by rw [g4.2 7 (by decide) (by decide) (by decide) (by decide) (by decide)]; exact h7
  have n8 : N 1 8 = -1 := by rw [g4.2 8 (by decide) (by decide) (by decide) (by decide) (by decide)]; exact h8
  have kr : 0 ≤ N0 4 ((0 : Nat) : Int) ∧ N0 4 ((0 : Nat) : Int) ≤ 4 := by
    rcases Nat.lt_or_ge 0 T with z | z
    · have := hT.2.2.2.1 0 z; omega
    · have e : T = 0 := by omega
      subst e
      rw [hT.2.2.2.2]; decide
  refine ⟨⟨⟨by omega, by omega, fun z => ?_, fun z => ?_⟩, Or.inl ⟨rfl, rfl, n7, n8, 0, rfl, by omega, u1.symm, u2.symm, u3.symm, fun z => ?_, fun z => ?_⟩⟩, goF.pF g4⟩
  · rw [g2 z]; rw [z] at g1; exact tokw g1
  · rw [g3 z, ← u5 (by omega)]; exact (t3 (by omega)).2
  · rw [g2 (by omega), ← u4 z]; exact t2 z
  · rw [g3 (by omega), ← u5 z]; exact (t3 z).1
end FI
