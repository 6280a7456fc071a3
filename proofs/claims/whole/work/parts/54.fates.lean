/-- two labels meet in a cell below -/
def mt (A B : Int → Int) (n : Nat) (a t : Int) : Prop := ∃ c : Int, (0 ≤ c ∧ c < n) ∧ A c = a ∧ B c = t
def tw (A B : Int → Int) (n : Nat) (a : Int) : Prop := ∃ c c' : Int, (0 ≤ c ∧ c < n) ∧ (0 ≤ c' ∧ c' < n) ∧ A c = a ∧ A c' = a ∧ B c ≠ -1 ∧ B c' ≠ -1 ∧ B c ≠ B c'
def an (A B : Int → Int) (n : Nat) (a : Int) : Prop := ∃ c : Int, (0 ≤ c ∧ c < n) ∧ A c = a ∧ B c ≠ -1
/-- labels and their number, in a field -/
def lbs (C R : Int) (A : Int → Int) (nA : Int) : Prop := (0 ≤ nA ∧ nA ≤ 96) ∧ ∀ c : Int, 0 ≤ c → c < C * R → A c = -1 ∨ (0 ≤ A c ∧ A c < nA)
section FT
variable {g g' : zG} {o o' : Bool} {M M' M1 M2 N N1 N2 : zM} {k C R c d m x y nA nB x1 x2 x3 : Int} {n b b1 b2 : Nat} {P : Int → Prop} {A B L L' : Int → Int}
theorem cnt_s (P : Int → Prop) (n : Nat) : cnt P (n + 1) = cnt P n + zb (P n) := rfl
theorem cnt_zero {P : Int → Prop} {n : Nat} : cnt P n = 0 ↔ ∀ i : Int, 0 ≤ i → i < n → ¬ P i := by
  induction n with
  | zero => exact ⟨fun _ i a b => by omega, fun _ => rfl⟩
  | succ n ih =>
    have c1 := (cnt_in P n).1
    rw [cnt_s]
    constructor
    · intro h i a b
      have z := zb01 (P n)
      by_cases e : i = n
      · rw [e]; exact zb_0.mp (by omega)
      · exact ih.mp (by omega) i a (by omega)
    · intro h
      rw [zb_f (h n (by omega) (by omega)), ih.mpr (fun i a b => h i a (by omega))]; rfl
theorem cnt_pos {P : Int → Prop} {n : Nat} : 0 < cnt P n ↔ ∃ i : Int, (0 ≤ i ∧ i < n) ∧ P i := by
  have c1 := (cnt_in P n).1
  constructor
  · intro h
    apply Classical.byContradiction
    intro hc
    have := cnt_zero.mpr (fun i a b hp => hc ⟨i, ⟨a, b⟩, hp⟩)
    omega
  · rintro ⟨i, ⟨a, b⟩, hp⟩
    apply Classical.byContradiction
    intro hc
    exact cnt_zero.mp (show cnt P n = 0 by omega) i a b hp
theorem cnt_two {P : Int → Prop} {n : Nat} : 1 < cnt P n ↔ ∃ i j : Int, (0 ≤ i ∧ i < n) ∧ (0 ≤ j ∧ j < n) ∧ i ≠ j ∧ P i ∧ P j := by
  have key : ∀ i : Int, 0 ≤ i → i < n → P i → cnt P n = cnt (fun x => P x ∧ x ≠ i) n + 1 := fun i a b hp => cnt_up (P := fun x => P x ∧ x ≠ i) (P' := P) a b (fun h => h.2 rfl) hp (fun j hj => ⟨fun h => h.1, fun h => ⟨h, hj⟩⟩)
  constructor
  · intro h
    obtain ⟨i, hi, hp⟩ := cnt_pos.mp (show 0 < cnt P n by omega)
    have := key i hi.1 hi.2 hp
    obtain ⟨j, hj, hq⟩ := cnt_pos.mp (show 0 < cnt (fun x => P x ∧ x ≠ i) n by omega)
    exact ⟨i, j, hi, hj, fun e => hq.2 e.symm, hp, hq.1⟩
  · rintro ⟨i, j, hi, hj, hne, hp, hq⟩
    have := key i hi.1 hi.2 hp
    have h2 : 0 < cnt (fun x => P x ∧ x ≠ i) n := cnt_pos.mpr ⟨j, hj, hq, fun e => hne e.symm⟩
    omega
theorem cnt_not (P : Int → Prop) (n : Nat) : cnt (fun i => ¬ P i) n = n - cnt P n := by
  induction n with
  | zero => rfl
  | succ n ih =>
    rw [cnt_s, cnt_s, ih]
    by_cases h : P n
    · rw [zb_f (fun q => q h), zb_t h]; omega
    · rw [zb_t h, zb_f h]; omega
theorem tw_meet (hB : lbs C R B nB) (hn : (n : Int) = C * R) (a : Int) : tw A B n a ↔ 1 < cnt (mt A B n a) nB.toNat := by
  rw [cnt_two]
  constructor
  · rintro ⟨c, c', hc, hc', e, e', p, p', q⟩
    have b1 := hB.2 c hc.1 (by omega)
    have b2 := hB.2 c' hc'.1 (by omega)
    exact ⟨B c, B c', by omega, by omega, q, ⟨c, hc, e, rfl⟩, ⟨c', hc', e', rfl⟩⟩
  · rintro ⟨i, j, hi, hj, hne, ⟨c, hc, e, f⟩, ⟨c', hc', e', f'⟩⟩
    exact ⟨c, c', hc, hc', e, e', by omega, by omega, by omega⟩
theorem an_meet (hB : lbs C R B nB) (hn : (n : Int) = C * R) (a : Int) : ¬ an A B n a ↔ cnt (mt A B n a) nB.toNat = 0 := by
  rw [cnt_zero]
  constructor
  · intro h i a1 a2 hm
    obtain ⟨c, hc, e, f⟩ := hm
    exact h ⟨c, hc, e, by omega⟩
  · rintro h ⟨c, hc, e, f⟩
    have b1 := hB.2 c hc.1 (by omega)
    exact h (B c) (by omega) (by omega) ⟨c, hc, e, rfl⟩
theorem tw_other {i : Nat} {a : Int} (h : A i ≠ a ∨ B i = -1) : tw A B (i + 1) a ↔ tw A B i a := by
  constructor
  · rintro ⟨c, c', hc, hc', e, e', p, p', q⟩
    have n1 : c ≠ i := fun z => by rw [z] at e p; rcases h with h | h <;> contradiction
    have n2 : c' ≠ i := fun z => by rw [z] at e' p'; rcases h with h | h <;> contradiction
    exact ⟨c, c', by omega, by omega, e, e', p, p', q⟩
  · rintro ⟨c, c', hc, hc', r⟩
    exact ⟨c, c', by omega, by omega, r⟩
theorem an_other {i : Nat} {a : Int} (h : A i ≠ a ∨ B i = -1) : an A B (i + 1) a ↔ an A B i a := by
  constructor
  · rintro ⟨c, hc, e, p⟩
    have n1 : c ≠ i := fun z => by rw [z] at e p; rcases h with h | h <;> contradiction
    exact ⟨c, by omega, e, p⟩
  · rintro ⟨c, hc, r⟩
    exact ⟨c, by omega, r⟩
def mmI (A B : Int → Int) (i : Nat) (a v : Int) : Prop := (v = -1 ∧ ∀ c : Int, 0 ≤ c → c < i → A c = a → B c = -1) ∨ ((0 ≤ v ∧ v ≤ 96) ∧ (∃ c : Int, (0 ≤ c ∧ c < i) ∧ A c = a ∧ B c = v) ∧ ∀ c : Int, 0 ≤ c → c < i → A c = a → B c = -1 ∨ B c = v) ∨ (v = -2 ∧ tw A B i a)
theorem mmI_other {i : Nat} {a v : Int} (h : A i ≠ a ∨ B i = -1) (hI : mmI A B i a v) : mmI A B (i + 1) a v := by
  rcases hI with ⟨e, f⟩ | ⟨e, ⟨c, hc, p⟩, f⟩ | ⟨e, f⟩
  · refine Or.inl ⟨e, fun c a1 a2 a3 => ?_⟩
    by_cases z : c = i
    · rw [z] at a3 ⊢; rcases h with h | h <;> first | contradiction | exact h
    · exact f c a1 (by omega) a3
  · refine Or.inr (Or.inl ⟨e, ⟨c, by omega, p⟩, fun c a1 a2 a3 => ?_⟩)
    by_cases z : c = i
    · rw [z] at a3 ⊢; rcases h with h | h <;> first | contradiction | exact Or.inl h
    · exact f c a1 (by omega) a3
  · exact Or.inr (Or.inr ⟨e, (tw_other h).mpr f⟩)
theorem c_meetingMany (hb1 : zLu b1) (hb2 : zLu b2) (hL : zLand M C R) (hA : lbs C R A nA) (hB : lbs C R B nB) (h1 : ∀ c : Int, 0 ≤ c → c < C * R → M (b1 + 3) c = A c ∧ M (b2 + 3) c = B c) : zKi g (z1 o) mX9_meetingMany [zA g 1, zA g b1, zA g b2] M (fun r M' => r = cnt (fun a => 1 < cnt (mt A B (C * R).toNat a) nB.toNat) nA.toNat ∧ frl [149] M M') := by
  have hg := geo_n hL.1
  obtain ⟨n, hnn⟩ := znn (show 0 ≤ C * R by omega)
  have en : (C * R).toNat = n := by omega
  rw [en]
  have ez : cnt (fun a => 1 < cnt (mt A B n a) nB.toNat) nA.toNat = cnt (tw A B n) 96 := by
    rw [cnt_congr (P' := tw A B n) (fun a _ _ => (tw_meet hB hnn.symm a).symm)]
    refine (cnt_out (by have := hA.1; omega) (fun a p q => ?_)).symm
    rintro ⟨c, c', hc, hc', e, e', u⟩
    have := hA.2 c hc.1 (by omega)
    omega
  rw [ez]
  have y1 := zlu_lo hb1
  have y2 := zlu_lo hb2
  refine zki_of rfl (Nat.le_of_ble_eq_true rfl) (SX9_meetingMany_0 hb1 hb2 ⟨_, c_fill (n := 96) rfl (by decide) (by decide), fun M3 hq => ?_⟩)
  have c0 : cnt (tw A B 0) 96 = 0 := cnt_zero.mpr (fun i _ _ => by rintro ⟨c, c', hc, _⟩; omega)
  suffices hs : ∀ (j i : Nat) (M1 : zM), i + j = n → (∀ a : Int, 0 ≤ a → a < 96 → mmI A B i a (M1 149 a)) → frl [149] M M1 → zT g (z1 o) mX9_meetingMany (zQi (z1 o) (fun r M' => r = cnt (tw A B n) 96 ∧ frl [149] M M')) 17 [(0, zA g 1), (1, zA g b1), (2, zA g b2), (3, zI (-2)), (4, zI (cnt (tw A B i) 96)), (5, zI i)] [] M1 by
    have := hs n 0 M3 (by omega) (fun a p q => Or.inl ⟨by rw [hq, zrw_row, if_pos ⟨p, by omega⟩], fun c u v => by omega⟩) (fun b hb => by rw [hq, zrw_other (by simpa using hb)])
    rw [c0] at this; exact this
  intro j
  induction j with
  | zero =>
    intro i M1 hi hI hF
    have e14 : M1 14 2 = C * R := by rw [hF 14 (by decide)]; exact hL.2.2.2.1
    rw [show i = n by omega]
    exact SX9_meetingMany_17 hb1 hb2 ⟨by omega, by omega, fun _ => ⟨rfl, hF⟩, fun h => by omega⟩
  | succ j ih =>
    intro i M1 hi hI hF
    have e14 : M1 14 2 = C * R := by rw [hF 14 (by decide)]; exact hL.2.2.2.1
    have q := h1 i (by omega) (by omega)
    have ea : M1 (b1 + 3) i = A i := by rw [hF _ (by simp; omega)]; exact q.1
    have eb : M1 (b2 + 3) i = B i := by rw [hF _ (by simp; omega)]; exact q.2
    have ra := hA.2 i (by omega) (by omega)
    have rb := hB.2 i (by omega) (by omega)
    have na := hA.1
    have nb := hB.1
    have stay : (∀ a : Int, 0 ≤ a → a < 96 → mmI A B (i + 1) a (M1 149 a)) → (∀ a : Int, 0 ≤ a → a < 96 → (tw A B (i + 1) a ↔ tw A B i a)) → zT g (z1 o) mX9_meetingMany (zQi (z1 o) (fun r M' => r = cnt (tw A B n) 96 ∧ frl [149] M M')) 17 [(0, zA g 1), (1, zA g b1), (2, zA g b2), (3, zI (-2)), (4, zI (cnt (tw A B i) 96)), (5, zI ((i : Int) + 1))] [] M1 := fun u v => by
      have := ih (i + 1) M1 (by omega) u hF
      rw [cnt_congr (fun a p q => v a p (by omega))] at this; exact this
    have dead : (A i = -1 ∨ B i = -1) → zT g (z1 o) mX9_meetingMany (zQi (z1 o) (fun r M' => r = cnt (tw A B n) 96 ∧ frl [149] M M')) 17 [(0, zA g 1), (1, zA g b1), (2, zA g b2), (3, zI (-2)), (4, zI (cnt (tw A B i) 96)), (5, zI ((i : Int) + 1))] [] M1 := fun h => stay (fun a p q => mmI_other (by rcases h with h | h; exact Or.inl (by omega); exact Or.inr h) (hI a p q)) (fun a p q => tw_other (by rcases h with h | h; exact Or.inl (by omega); exact Or.inr h))
    have put : ∀ v : Int, A i ≠ -1 → (mmI A B (i + 1) (A i) v) → zT g (z1 o) mX9_meetingMany (zQi (z1 o) (fun r M' => r = cnt (tw A B n) 96 ∧ frl [149] M M')) 17 [(0, zA g 1), (1, zA g b1), (2, zA g b2), (3, zI (-2)), (4, zI (cnt (tw A B (i + 1)) 96)), (5, zI ((i : Int) + 1))] [] (zu M1 149 (A i) v) := fun v h1 h2 => by
      refine ih (i + 1) _ (by omega) (fun a p q => ?_) (hF.trans (fun b hb => zu_other (by simpa using hb)))
      rw [zu_row]
      by_cases z : a = A i
      · rw [if_pos z, z]; exact h2
      · rw [if_neg z]; exact mmI_other (Or.inl (Ne.symm z)) (hI a p q)
    refine SX9_meetingMany_17 hb1 hb2 ⟨by omega, by omega, fun h => by omega, fun _ => ?_⟩
    rw [ea, eb]
    refine ⟨by omega, by omega, fun h => dead (Or.inl h), fun hA1 => ⟨by omega, fun h => dead (Or.inr h), fun hB1 => ?_⟩⟩
    have I0 := hI (A i) (by omega) (by omega)
    have rv : -2 ≤ M1 149 (A i) ∧ M1 149 (A i) ≤ 96 := by rcases I0 with ⟨e, -⟩ | ⟨e, -⟩ | ⟨e, -⟩ <;> omega
    refine ⟨by omega, by omega, by decide, fun h2 => ⟨fun h3 => ⟨fun h4 => ?_, fun h4 => ?_⟩, fun h3 => ?_⟩, fun h2 => ?_⟩
    · rcases I0 with ⟨e, -⟩ | ⟨e, ⟨c, hc, p⟩, f⟩ | ⟨e, -⟩
      · omega
      · have f' : ∀ c : Int, 0 ≤ c → c < ((i + 1 : Nat) : Int) → A c = A i → B c = -1 ∨ B c = M1 149 (A i) := fun c u v w => by
          by_cases z : c = i
          · rw [z]; exact Or.inr h4.symm
          · exact f c u (by omega) w
        refine stay (fun a p' q' => ?_) (fun a p' q' => ?_)
        · by_cases z : a = A i
          · rw [z]; exact Or.inr (Or.inl ⟨e, ⟨c, by omega, p⟩, f'⟩)
          · exact mmI_other (Or.inl (Ne.symm z)) (hI a p' q')
        · by_cases z : a = A i
          · rw [z]
            constructor
            · rintro ⟨c1, c2, u1, u2, v1, v2, w1, w2, w3⟩
              rcases f' c1 u1.1 u1.2 v1 with r | r
              · exact absurd r w1
              · rcases f' c2 u2.1 u2.2 v2 with s | s
                · exact absurd s w2
                · exact absurd (r.trans s.symm) w3
            · rintro ⟨c1, c2, u1, u2, w⟩; exact ⟨c1, c2, by omega, by omega, w⟩
          · exact tw_other (Or.inl (Ne.symm z))
      · omega
    · rcases I0 with ⟨e, -⟩ | ⟨e, ⟨c, hc, p⟩, f⟩ | ⟨e, -⟩
      · omega
      · have hno : ¬ tw A B i (A i) := by
          rintro ⟨c1, c2, u1, u2, v1, v2, w1, w2, w3⟩
          rcases f c1 u1.1 u1.2 v1 with r | r
          · exact absurd r w1
          · rcases f c2 u2.1 u2.2 v2 with s | s
            · exact absurd s w2
            · exact absurd (r.trans s.symm) w3
        have hyes : tw A B (i + 1) (A i) := ⟨c, i, by omega, by omega, p.1, rfl, by rw [p.2]; exact h3, hB1, by rw [p.2]; exact h4⟩
        have ec := cnt_up (n := 96) (show 0 ≤ A i by omega) (by omega) hno hyes (fun a ha => (tw_other (Or.inl (Ne.symm ha))).symm)
        rw [← ec]
        exact put (-2) hA1 (Or.inr (Or.inr ⟨rfl, hyes⟩))
      · omega
    · rcases I0 with ⟨e, f⟩ | ⟨e, -⟩ | ⟨e, -⟩
      · have hz : ∀ c : Int, 0 ≤ c → c < ((i + 1 : Nat) : Int) → A c = A i → B c = -1 ∨ B c = B i := fun c u v w => by
          by_cases z : c = i
          · rw [z]; exact Or.inr rfl
          · exact Or.inl (f c u (by omega) w)
        have ec : cnt (tw A B (i + 1)) 96 = cnt (tw A B i) 96 := cnt_congr (fun a p' q' => by
          by_cases z : a = A i
          · rw [z]
            constructor
            · rintro ⟨c1, c2, u1, u2, v1, v2, w1, w2, w3⟩
              rcases hz c1 u1.1 u1.2 v1 with r | r
              · exact absurd r w1
              · rcases hz c2 u2.1 u2.2 v2 with s | s
                · exact absurd s w2
                · exact absurd (r.trans s.symm) w3
            · rintro ⟨c1, c2, u1, u2, w⟩; exact ⟨c1, c2, by omega, by omega, w⟩
          · exact tw_other (Or.inl (Ne.symm z)))
        rw [← ec]
        exact put (B i) hA1 (Or.inr (Or.inl ⟨by omega, ⟨i, by omega, rfl, rfl⟩, hz⟩))
      · omega
      · omega
    · rcases I0 with ⟨e, -⟩ | ⟨e, -⟩ | ⟨e, f⟩
      · omega
      · omega
      · have f' : tw A B (i + 1) (A i) := by obtain ⟨c1, c2, u1, u2, w⟩ := f; exact ⟨c1, c2, by omega, by omega, w⟩
        refine stay (fun a p' q' => ?_) (fun a p' q' => ?_)
        · by_cases z : a = A i
          · rw [z]; exact Or.inr (Or.inr ⟨e, f'⟩)
          · exact mmI_other (Or.inl (Ne.symm z)) (hI a p' q')
        · by_cases z : a = A i
          · rw [z]; exact ⟨fun _ => f, fun _ => f'⟩
          · exact tw_other (Or.inl (Ne.symm z))
theorem c_meetingNone (hb1 : zLu b1) (hb2 : zLu b2) (hL : zLand M C R) (hA : lbs C R A nA) (hB : lbs C R B nB) (h1 : ∀ c : Int, 0 ≤ c → c < C * R → M (b1 + 3) c = A c ∧ M (b2 + 3) c = B c) (h5 : M b1 5 = nA) : zKi g (z1 o) mX9_meetingNone [zA g 1, zA g b1, zA g b2] M (fun r M' => r = cnt (fun a => cnt (mt A B (C * R).toNat a) nB.toNat = 0) nA.toNat ∧ frl [149] M M') := by
  have hg := geo_n hL.1
  obtain ⟨n, hnn⟩ := znn (show 0 ≤ C * R by omega)
  have en : (C * R).toNat = n := by omega
  rw [en]
  have na := hA.1
  have nb := hB.1
  have ez : cnt (fun a => cnt (mt A B n a) nB.toNat = 0) nA.toNat = nA - cnt (an A B n) 96 := by
    rw [cnt_congr (P' := fun a => ¬ an A B n a) (fun a _ _ => (an_meet hB hnn.symm a).symm), cnt_not, show cnt (an A B n) 96 = cnt (an A B n) nA.toNat from cnt_out (by omega) (fun a p q => by
      rintro ⟨c, hc, e, u⟩
      have := hA.2 c hc.1 (by omega)
      omega)]
    omega
  rw [ez]
  have y1 := zlu_lo hb1
  have y2 := zlu_lo hb2
  refine zki_of rfl (Nat.le_of_ble_eq_true rfl) (SX9_meetingNone_0 hb1 hb2 ⟨_, c_fill (n := 96) rfl (by decide) (by decide), fun M3 hq => ?_⟩)
  have c0 : cnt (an A B 0) 96 = 0 := cnt_zero.mpr (fun i _ _ => by rintro ⟨c, hc, _⟩; omega)
  suffices hs : ∀ (j i : Nat) (M1 : zM), i + j = n → (∀ a : Int, 0 ≤ a → a < 96 → M1 149 a = zb (an A B i a)) → frl [149] M M1 → zT g (z1 o) mX9_meetingNone (zQi (z1 o) (fun r M' => r = nA - cnt (an A B n) 96 ∧ frl [149] M M')) 13 [(0, zA g 1), (1, zA g b1), (2, zA g b2), (3, zI (cnt (an A B i) 96)), (4, zI i)] [] M1 by
    have := hs n 0 M3 (by omega) (fun a p q => by rw [hq, zrw_row, if_pos ⟨p, by omega⟩, zb_f (by rintro ⟨c, hc, _⟩; omega)]) (fun b hb => by rw [hq, zrw_other (by simpa using hb)])
    rw [c0] at this; exact this
  intro j
  induction j with
  | zero =>
    intro i M1 hi hI hF
    have e14 : M1 14 2 = C * R := by rw [hF 14 (by decide)]; exact hL.2.2.2.1
    rw [show i = n by omega]
    exact SX9_meetingNone_13 hb1 hb2 ⟨by omega, by omega, fun _ => ⟨by rw [hF b1 (by simp; omega), h5], hF⟩, fun h => by omega⟩
  | succ j ih =>
    intro i M1 hi hI hF
    have e14 : M1 14 2 = C * R := by rw [hF 14 (by decide)]; exact hL.2.2.2.1
    have q := h1 i (by omega) (by omega)
    have ea : M1 (b1 + 3) i = A i := by rw [hF _ (by simp; omega)]; exact q.1
    have eb : M1 (b2 + 3) i = B i := by rw [hF _ (by simp; omega)]; exact q.2
    have ra := hA.2 i (by omega) (by omega)
    have rb := hB.2 i (by omega) (by omega)
    have stay : (∀ a : Int, 0 ≤ a → a < 96 → (an A B (i + 1) a ↔ an A B i a)) → zT g (z1 o) mX9_meetingNone (zQi (z1 o) (fun r M' => r = nA - cnt (an A B n) 96 ∧ frl [149] M M')) 13 [(0, zA g 1), (1, zA g b1), (2, zA g b2), (3, zI (cnt (an A B i) 96)), (4, zI ((i : Int) + 1))] [] M1 := fun v => by
      have := ih (i + 1) M1 (by omega) (fun a p q => by rw [hI a p q, zb_congr (v a p q)]) hF
      rw [cnt_congr (fun a p q => v a p (by omega))] at this; exact this
    refine SX9_meetingNone_13 hb1 hb2 ⟨by omega, by omega, fun h => by omega, fun _ => ?_⟩
    rw [ea, eb]
    refine ⟨by omega, by omega, fun h => stay (fun a p q => an_other (Or.inl (by omega))), fun hA1 => ⟨by omega, fun h => stay (fun a p q => an_other (Or.inr h)), fun hB1 => ?_⟩⟩
    have I0 := hI (A i) (by omega) (by omega)
    have h01 := zb01 (an A B i (A i))
    have hyes : an A B (i + 1) (A i) := ⟨i, by omega, rfl, hB1⟩
    refine ⟨by omega, by omega, fun h2 => stay (fun a p q => ?_), fun h2 => ?_⟩
    · by_cases z : a = A i
      · rw [z]
        have : an A B i (A i) := by rcases h01 with w | w <;> first | omega | exact zb_1.mp w
        exact ⟨fun _ => this, fun _ => hyes⟩
      · exact an_other (Or.inl (Ne.symm z))
    · have hno : ¬ an A B i (A i) := zb_0.mp (by omega)
      have ec := cnt_up (n := 96) (show 0 ≤ A i by omega) (by omega) hno hyes (fun a ha => (an_other (Or.inl (Ne.symm ha))).symm)
      have := ih (i + 1) (zu M1 149 (A i) 1) (by omega) (fun a p q => by
        rw [zu_row]
        by_cases z : a = A i
        · rw [if_pos z, z, zb_t hyes]
        · rw [if_neg z, hI a p q, zb_congr (an_other (Or.inl (Ne.symm z)))]) (hF.trans (fun b hb => zu_other (by simpa using hb)))
      rw [ec] at this; exact this
/-! the reference -/
theorem c_inCommon (h : zRf M C R) (hl : ∀ c : Int, 0 ≤ c → c < C * R → (M 13 c = L c ∧ -1 ≤ L c ∧ L c ≤ 96) ∧ M 14 c = L' c ∧ -1 ≤ L' c ∧ L' c ≤ 96) (hx : -1 ≤ x ∧ x ≤ 96) (hy : -1 ≤ y ∧ y ≤ 96) : zKi g (z2 o) mX10_inCommon [zA g 1, zI x, zI y] M (fun r M' => r = cnt (fun c => L c = x ∧ L' c = y) (C * R).toNat ∧ M' = M) := by
  have hg := geo_n h.1
  obtain ⟨n, hnn⟩ := znn (show 0 ≤ C * R by omega)
  rw [show (C * R).toNat = n by omega]
  refine zki_of rfl (Nat.le_of_ble_eq_true rfl) (SX10_inCommon_0 ?_)
  refine zup (fun i => zT g (z2 o) mX10_inCommon (zQi (z2 o) (fun r M' => r = cnt (fun c => L c = x ∧ L' c = y) n ∧ M' = M)) 5 [(0, zA g 1), (1, zI x), (2, zI y), (3, zI (cnt (fun c => L c = x ∧ L' c = y) i)), (4, zI i)] [] M) n (SX10_inCommon_5 (C := C) (R := R) ⟨h, by omega, by omega, fun _ => ⟨rfl, rfl⟩, fun h => by omega⟩) (fun i hi ih => ?_)
  obtain ⟨l1, l2⟩ := hl i (by omega) (by omega)
  have no : ¬ (L i = x ∧ L' i = y) → zT g (z2 o) mX10_inCommon (zQi (z2 o) (fun r M' => r = cnt (fun c => L c = x ∧ L' c = y) n ∧ M' = M)) 5 [(0, zA g 1), (1, zI x), (2, zI y), (3, zI (cnt (fun c => L c = x ∧ L' c = y) i + 0)), (4, zI ((i : Int) + 1))] [] M := fun hq => by
    rw [cnt_skip (P := fun c => L c = x ∧ L' c = y) hq] at ih; rw [Int.add_zero]; exact ih
  refine SX10_inCommon_5 (C := C) (R := R) ⟨h, by omega, by omega, fun h => by omega, fun _ => ⟨by omega, by omega, by omega, fun h1 => no (fun q => h1 (by rw [l1.1]; exact q.1)), fun h1 => ⟨by omega, by omega, fun h2 => no (fun q => h2 (by rw [l2.1]; exact q.2)), fun h2 => ?_⟩⟩⟩
  rw [cnt_take (P := fun c => L c = x ∧ L' c = y) ⟨by rw [← l1.1]; exact h1, by rw [← l2.1]; exact h2⟩] at ih; exact ih
/-- by which way one is held against the others -/
def isN (L L' A B : Int → Int) (x : Int) : Prop := (x = 1 ∧ A = L ∧ B = L') ∨ (x = 0 ∧ A = L' ∧ B = L)
theorem mt_cnt {a t : Int} {n : Nat} : mt A B n a t ↔ 0 < cnt (fun c => A c = a ∧ B c = t) n := by
  rw [cnt_pos]; rfl
theorem c_meets {nn : Nat} (h : zRf M C R) (hl : ∀ c : Int, 0 ≤ c → c < C * R → (M 13 c = L c ∧ -1 ≤ L c ∧ L c ≤ 96) ∧ M 14 c = L' c ∧ -1 ≤ L' c ∧ L' c ≤ 96) (hx : isN L L' A B x) (hy : -1 ≤ y ∧ y ≤ 96) (hn : nn ≤ 96) : zKi g (z2 o) mX10_meets [zA g 1, zI y, zI nn, zI x] M (fun r M' => r = cnt (mt A B (C * R).toNat y) nn ∧ M' = M) := by
  have hg := geo_n h.1
  have hx01 : x = 0 ∨ x = 1 := by rcases hx with e | e <;> omega
  refine zki_of rfl (Nat.le_of_ble_eq_true rfl) (SX10_meets_0 ?_)
  refine zup (fun i => zT g (z2 o) mX10_meets (zQi (z2 o) (fun r M' => r = cnt (mt A B (C * R).toNat y) nn ∧ M' = M)) 6 [(0, zA g 1), (1, zI y), (2, zI nn), (3, zI x), (4, zI (cnt (mt A B (C * R).toNat y) i)), (5, zI i)] [] M) nn (SX10_meets_6 ⟨by omega, by omega, fun _ => ⟨rfl, rfl⟩, fun h => by omega⟩) (fun i hi ih => ?_)
  have nx : ∀ (r : Int) (M3 : zM), (r = cnt (fun c => A c = y ∧ B c = i) (C * R).toNat ∧ M3 = M) → (-2147483648 ≤ r ∧ r ≤ 2147483647) ∧ (r ≤ 0 → zT g (z2 o) mX10_meets (zQi (z2 o) (fun r M' => r = cnt (mt A B (C * R).toNat y) nn ∧ M' = M)) 6 [(0, zA g 1), (1, zI y), (2, zI nn), (3, zI x), (4, zI (cnt (mt A B (C * R).toNat y) i + 0)), (5, zI ((i : Int) + 1))] [] M3) ∧ (¬ (r ≤ 0) → zT g (z2 o) mX10_meets (zQi (z2 o) (fun r M' => r = cnt (mt A B (C * R).toNat y) nn ∧ M' = M)) 6 [(0, zA g 1), (1, zI y), (2, zI nn), (3, zI x), (4, zI (cnt (mt A B (C * R).toNat y) i + 1)), (5, zI ((i : Int) + 1))] [] M3) := fun r M3 hq => by
    obtain ⟨e, rfl⟩ := hq
    have ci := cnt_in (fun c => A c = y ∧ B c = i) (C * R).toNat
    refine ⟨by omega, fun h0 => ?_, fun h0 => ?_⟩
    · rw [cnt_skip (P := mt A B (C * R).toNat y) (fun q => by have := mt_cnt.mp q; omega)] at ih; rw [Int.add_zero]; exact ih
    · rw [cnt_take (P := mt A B (C * R).toNat y) (mt_cnt.mpr (by omega))] at ih; exact ih
  refine SX10_meets_6 ⟨by omega, by omega, fun h => by omega, fun _ => ⟨by omega, fun h0 => ?_, fun h0 => ?_⟩⟩
  · rcases hx with ⟨e, -⟩ | ⟨e, rfl, rfl⟩
    · omega
    · refine ⟨_, c_inCommon h hl (by omega) (by omega), fun r M3 hq => nx r M3 ⟨?_, hq.2⟩⟩
      rw [hq.1]; exact cnt_congr (fun c _ _ => ⟨fun q => ⟨q.2, q.1⟩, fun q => ⟨q.2, q.1⟩⟩)
  · rcases hx with ⟨e, rfl, rfl⟩ | ⟨e, -⟩
    · exact ⟨_, c_inCommon h hl (by omega) (by omega), nx⟩
    · omega
theorem c_fates73 {nA nB : Nat} (h : zRf M C R) (hl : ∀ c : Int, 0 ≤ c → c < C * R → (M 13 c = L c ∧ -1 ≤ L c ∧ L c ≤ 96) ∧ M 14 c = L' c ∧ -1 ≤ L' c ∧ L' c ≤ 96) (hx : isN L L' A B x) (hn : nA ≤ 96 ∧ nB ≤ 96) (hw : 0 ≤ x3 ∧ x3 ≤ 3) (hz : (x = 1 ∧ x1 = nA ∧ x2 = nB) ∨ (x = 0 ∧ x1 = nB ∧ x2 = nA)) {q0 : Int → zM → Prop} (hq0 : q0 (cnt (fun a => if x3 < 2 then 1 < cnt (mt A B (C * R).toNat a) nB else cnt (mt A B (C * R).toNat a) nB = 0) nA) M) : zT g (z2 o) mX10_fates (zQi (z2 o) q0) 73 [(0, zA g 1), (3, zI x3), (4, zI x1), (5, zI x2), (6, zI x), (7, zI 0), (8, zI 0)] [] M := by
  have hg := geo_n h.1
  have hx01 : x = 0 ∨ x = 1 := by rcases hx with e | e <;> omega
  obtain ⟨P, eP⟩ : ∃ P : Int → Prop, P = fun a => if x3 < 2 then 1 < cnt (mt A B (C * R).toNat a) nB else cnt (mt A B (C * R).toNat a) nB = 0 := ⟨_, rfl⟩
  rw [← eP] at hq0
  refine zup (fun i => zT g (z2 o) mX10_fates (zQi (z2 o) q0) 73 [(0, zA g 1), (3, zI x3), (4, zI x1), (5, zI x2), (6, zI x), (7, zI (cnt P i)), (8, zI i)] [] M) nA ?_ (fun i hi ih => ?_)
  · exact SX10_fates_73 ⟨by omega, fun h0 => ⟨by omega, by omega, fun _ => hq0, fun h1 => by omega⟩, fun h0 => ⟨by omega, by omega, fun _ => hq0, fun h1 => by omega⟩⟩
  · have cm := c_meets (g := g) (o := o) (nn := nB) (y := (i : Int)) h hl hx (by omega) (by omega)
    have nx : ∀ (r : Int) (M3 : zM), (r = cnt (mt A B (C * R).toNat i) nB ∧ M3 = M) → (-2147483648 ≤ x3 ∧ x3 ≤ 2147483647) ∧ (2 ≤ x3 → (-2147483648 ≤ r ∧ r ≤ 2147483647) ∧ (r ≠ 0 → zT g (z2 o) mX10_fates (zQi (z2 o) q0) 73 [(0, zA g 1), (3, zI x3), (4, zI x1), (5, zI x2), (6, zI x), (7, zI (cnt P i + 0)), (8, zI ((i : Int) + 1))] [] M3) ∧ (r = 0 → zT g (z2 o) mX10_fates (zQi (z2 o) q0) 73 [(0, zA g 1), (3, zI x3), (4, zI x1), (5, zI x2), (6, zI x), (7, zI (cnt P i + 1)), (8, zI ((i : Int) + 1))] [] M3)) ∧ (¬ (2 ≤ x3) → (-2147483648 ≤ r ∧ r ≤ 2147483647) ∧ (r ≤ 1 → zT g (z2 o) mX10_fates (zQi (z2 o) q0) 73 [(0, zA g 1), (3, zI x3), (4, zI x1), (5, zI x2), (6, zI x), (7, zI (cnt P i + 0)), (8, zI ((i : Int) + 1))] [] M3) ∧ (¬ (r ≤ 1) → zT g (z2 o) mX10_fates (zQi (z2 o) q0) 73 [(0, zA g 1), (3, zI x3), (4, zI x1), (5, zI x2), (6, zI x), (7, zI (cnt P i + 1)), (8, zI ((i : Int) + 1))] [] M3)) := fun r M3 hq => by
      obtain ⟨e, rfl⟩ := hq
      have ci := cnt_in (mt A B (C * R).toNat i) nB
      have pi : P i ↔ if x3 < 2 then 1 < cnt (mt A B (C * R).toNat i) nB else cnt (mt A B (C * R).toNat i) nB = 0 := by rw [eP]
      have no : ¬ P i → zT g (z2 o) mX10_fates (zQi (z2 o) q0) 73 [(0, zA g 1), (3, zI x3), (4, zI x1), (5, zI x2), (6, zI x), (7, zI (cnt P i + 0)), (8, zI ((i : Int) + 1))] [] M3 := fun q => by
        rw [cnt_skip q] at ih; rw [Int.add_zero]; exact ih
      have yes : P i → zT g (z2 o) mX10_fates (zQi (z2 o) q0) 73 [(0, zA g 1), (3, zI x3), (4, zI x1), (5, zI x2), (6, zI x), (7, zI (cnt P i + 1)), (8, zI ((i : Int) + 1))] [] M3 := fun q => by
        rw [cnt_take q] at ih; exact ih
      refine ⟨by omega, fun h2 => ?_, fun h2 => ?_⟩
      · rw [if_neg (by omega)] at pi
        exact ⟨by omega, fun h3 => no (fun q => h3 (by rw [e]; exact pi.mp q)), fun h3 => yes (pi.mpr (by rw [← e]; exact h3))⟩
      · rw [if_pos (by omega)] at pi
        exact ⟨by omega, fun h3 => no (fun q => by have := pi.mp q; omega), fun h3 => yes (pi.mpr (by omega))⟩
    rcases hz with ⟨ez1, rfl, rfl⟩ | ⟨ez1, rfl, rfl⟩
    · exact SX10_fates_73 ⟨by omega, fun h0 => by omega, fun h0 => ⟨by omega, by omega, fun h1 => by omega, fun h1 => ⟨fun h2 => absurd h2 h0, fun _ => ⟨_, cm, nx⟩⟩⟩⟩
    · exact SX10_fates_73 ⟨by omega, fun h0 => ⟨by omega, by omega, fun h1 => by omega, fun h1 => ⟨fun _ => ⟨_, cm, nx⟩, fun h2 => absurd h0 h2⟩⟩, fun h0 => absurd ez1 h0⟩
end FT
