/-- what an act does to the reference's past -/
def acR (M N : zM) : Prop := (M 1 28 < 20 → N 1 28 = M 1 28 + 1 ∧ (∀ i : Int, 0 ≤ i → i < 198 → N 12 (198 * M 1 28 + i) = M 10 i) ∧ ∀ j : Int, 0 ≤ j → j < 198 * M 1 28 → N 12 j = M 12 j) ∧ (M 1 28 = 20 → N 1 28 = 20 ∧ (∀ j : Int, 0 ≤ j → j < 3762 → N 12 j = M 12 (j + 198)) ∧ ∀ i : Int, 0 ≤ i → i < 198 → N 12 (3762 + i) = M 10 i) ∧ N 1 29 = 0
def hAdd (M N : zM) (p : Nat → Nat) (e t : Nat) : Prop := (∀ i : Nat, i < 21 → N 37 (i : Int) = (p i : Int)) ∧ N 36 1 = e ∧ N 36 2 = 0 ∧ zsame M N (p e) t ∧ ∀ b : Nat, b ≠ 36 → b ≠ 37 → b ≠ p e → b ≠ p e + 1 → b ≠ p e + 2 → b ≠ p e + 3 → N b = M b
def rot (p : Nat → Nat) : Nat → Nat := fun i => if i = 20 then p 0 else p (i + 1)
section HC
variable {g g' : zG} {o o' : Bool} {M M' N A1 M1 M2 N1 N2 : zM} {k C R c x v B T x1 x2 : Int} {p : Nat → Nat} {d e t u : Nat} {f : Int → Int}
theorem c_oldest (hp : ∀ i : Nat, i < 21 → ∃ b : Nat, M 37 (i : Int) = (b : Int) ∧ zSd b) : zKv g (z1 o) mX1_dropOldest [zA g 36] M (fun M' => (∀ i : Nat, i < 20 → M' 37 (i : Int) = M 37 ((i + 1 : Nat) : Int)) ∧ M' 37 20 = M 37 0 ∧ ∀ b : Nat, b ≠ 37 → M' b = M b) := by
  obtain ⟨b1, e1, h1⟩ := hp 0 (by decide)
  refine zkv_of rfl (Nat.le_of_ble_eq_true rfl) (SX1_dropOldest_0 ⟨b1, e1, h1, ?_⟩)
  suffices hs : ∀ (n k : Nat) (M1 : zM), k + n = 20 → (∀ i : Nat, i < k → M1 37 (i : Int) = M 37 ((i + 1 : Nat) : Int)) → (∀ i : Nat, k ≤ i → i < 21 → M1 37 (i : Int) = M 37 (i : Int)) → (∀ b : Nat, b ≠ 37 → M1 b = M b) → zT g (z1 o) mX1_dropOldest (zQv (z1 o) (fun M' => (∀ i : Nat, i < 20 → M' 37 (i : Int) = M 37 ((i + 1 : Nat) : Int)) ∧ M' 37 20 = M 37 0 ∧ ∀ b : Nat, b ≠ 37 → M' b = M b)) 9 [(0, zA g 36), (1, zA g b1), (2, zI k)] [] M1 from hs 20 0 M rfl (fun i hi => by omega) (fun _ _ _ => rfl) (fun _ _ => rfl)
  intro n
  induction n with
  | zero =>
    intro k M1 hk ha hb hc
    refine SX1_dropOldest_9 h1 ⟨by omega, fun _ => ⟨fun i hi => ?_, ?_, fun b hb' => by rw [zu_other hb', hc b hb']⟩, fun h => by omega⟩
    · rw [zu_row, if_neg (by omega), ha i (by omega)]
    · rw [zu_at]; exact e1.symm
  | succ n ih =>
    intro k M1 hk ha hb hc
    obtain ⟨b2, e2, h2⟩ := hp (k + 1) (by omega)
    refine SX1_dropOldest_9 h1 ⟨by omega, fun h => by omega, fun _ => ⟨by omega, b2, ?_, h2, by omega, ?_⟩⟩
    · exact (hb (k + 1) (by omega) (by omega)).trans e2
    · refine ih (k + 1) _ (by omega) (fun i hi => ?_) (fun i p q => ?_) (fun b p => by rw [zu_other p, hc b p])
      · rw [zu_row]
        by_cases e : i = k
        · rw [if_pos (by omega), e]; exact e2.symm
        · rw [if_neg (by omega)]; exact ha i (by omega)
      · rw [zu_row, if_neg (by omega)]; exact hb i (by omega) q
theorem zsd_36 (h : zSd t) : t ≠ 36 ∧ t ≠ 37 ∧ t + 1 ≠ 36 ∧ t + 1 ≠ 37 ∧ t + 2 ≠ 36 ∧ t + 2 ≠ 37 ∧ t + 3 ≠ 36 ∧ t + 3 ≠ 37 := by
  have h' : ∀ t ∈ zsds, t ≠ 36 ∧ t ≠ 37 ∧ t + 1 ≠ 36 ∧ t + 1 ≠ 37 ∧ t + 2 ≠ 36 ∧ t + 2 ≠ 37 ∧ t + 3 ≠ 36 ∧ t + 3 ≠ 37 := by decide +kernel
  exact h' t h
theorem zsame.pre {s : Nat} (h : zsame M' N s t) (e0 : M' t = M t) (e1 : M' (t + 1) = M (t + 1)) (e2 : M' (t + 2) = M (t + 2)) (e3 : M' (t + 3) = M (t + 3)) : zsame M N s t := by
  unfold zsame at h ⊢; rw [e0, e1, e2, e3] at h; exact h
theorem c_add (ht : zSd t) (hp : ∀ i : Nat, i < 21 → M 37 (i : Int) = (p i : Int) ∧ zSd (p i)) (hd : M 36 1 = d) (hd2 : d ≤ 20) : zKv g (z1 o) mX1_add [zA g 36, zA g t] M (fun M' => (d < 20 → hAdd M M' p (d + 1) t) ∧ (d = 20 → hAdd M M' (rot p) 20 t)) := by
  have h36 := zsd_36 ht
  refine zkv_of rfl (Nat.le_of_ble_eq_true rfl) (SX1_add_0 ht ?_)
  have e1 : zu M 36 2 0 36 1 = d := by rw [zu_row, if_neg (by decide)]; exact hd
  rw [e1]
  refine ⟨by omega, fun h => ?_, fun h N14 e14 => ?_⟩
  · refine ⟨_, c_oldest (fun i hi => ⟨p i, ?_, (hp i hi).2⟩), fun M4 hq => ?_⟩
    · rw [zu_other (by decide)]; exact (hp i hi).1
    · obtain ⟨q1, q2, q3⟩ := hq
      have e4 : M4 36 1 = 20 := by rw [q3 36 (by decide), e1]; omega
      have o4 : ∀ b : Nat, b ≠ 36 → b ≠ 37 → M4 b = M b := fun b p q => by rw [q3 b q, zu_other p]
      have r4 : ∀ i : Nat, i < 21 → M4 37 (i : Int) = (rot p i : Int) := fun i hi => by
        unfold rot
        by_cases h20 : i = 20
        · rw [if_pos h20, h20]
          show M4 37 20 = _
          rw [q2, zu_other (by decide)]; exact (hp 0 (by decide)).1
        · rw [if_neg h20, q1 i (by omega), zu_other (by decide)]; exact (hp (i + 1) (by omega)).1
      rw [e4]
      have hz : zSd (p 0) := (hp 0 (by decide)).2
      have hz2 := zsd_36 hz
      refine ⟨by omega, p 0, r4 20 (by decide), hz, _, c_copy hz ht, fun M11 hq => ⟨fun h => by omega, fun _ => ?_⟩⟩
      obtain ⟨s1, s2⟩ := hq
      have e20 : rot p 20 = p 0 := rfl
      refine ⟨fun i hi => by rw [s2 37 (by omega) (by omega) (by omega) (by omega)]; exact r4 i hi, by rw [s2 36 (by omega) (by omega) (by omega) (by omega), e4]; rfl, ?_, ?_, ?_⟩
      · rw [s2 36 (by omega) (by omega) (by omega) (by omega), q3 36 (by decide), zu_at]
      · rw [e20]; exact s1.pre (o4 _ (by omega) (by omega)) (o4 _ (by omega) (by omega)) (o4 _ (by omega) (by omega)) (o4 _ (by omega) (by omega))
      · rw [e20]; exact fun b a1 a2 a3 a4 a5 a6 => by rw [s2 b a3 a4 a5 a6, o4 b a1 a2]
  · have e15 : N14 36 1 = d := by rw [e14]; exact e1
    rw [e15, zu_at]
    have o4 : ∀ b : Nat, b ≠ 36 → zu N14 36 1 ((d : Int) + 1) b = M b := fun b p => by rw [zu_other p, e14, zu_other p]
    have hz : zSd (p (d + 1)) := (hp (d + 1) (by omega)).2
    have hz2 := zsd_36 hz
    refine ⟨by omega, p (d + 1), ?_, hz, _, c_copy hz ht, fun M20 hq => ⟨fun _ => ?_, fun h => by omega⟩⟩
    · rw [o4 37 (by decide)]; exact (hp (d + 1) (by omega)).1
    · obtain ⟨s1, s2⟩ := hq
      refine ⟨fun i hi => by rw [s2 37 (by omega) (by omega) (by omega) (by omega), o4 37 (by decide)]; exact (hp i hi).1, by rw [s2 36 (by omega) (by omega) (by omega) (by omega), zu_at]; rfl, ?_, ?_, ?_⟩
      · rw [s2 36 (by omega) (by omega) (by omega) (by omega), zu_row, if_neg (by decide), e14, zu_at]
      · exact s1.pre (o4 _ (by omega)) (o4 _ (by omega)) (o4 _ (by omega)) (o4 _ (by omega))
      · exact fun b a1 a2 a3 a4 a5 a6 => by rw [s2 b a3 a4 a5 a6, o4 b a1]
theorem c_act (hd : M 1 28 = d) (hd2 : d ≤ 20) : zKv g (z2 o) mX10_act [zA g 1] M (fun N => acR M N ∧ (∀ b : Nat, b ≠ 1 → b ≠ 12 → N b = M b) ∧ ∀ i : Int, i ≠ 28 → i ≠ 29 → N 1 i = M 1 i) := by
  have tail : ∀ (e : Nat) (F : Int → Int), e < 20 → ∀ (n : Nat) (k : Int) (M1 : zM), 0 ≤ k → k + n = 198 → M1 1 28 = e → (∀ i : Int, 0 ≤ i → i < k → M1 12 (198 * e + i) = M 10 i) → (∀ j : Int, 0 ≤ j → j < 198 * e → M1 12 j = F j) → (∀ b : Nat, b ≠ 1 → b ≠ 12 → M1 b = M b) → (∀ i : Int, i ≠ 28 → M1 1 i = M 1 i) → zT g (z2 o) mX10_act (zQv (z2 o) (fun N => (N 1 28 = e + 1 ∧ (∀ i : Int, 0 ≤ i → i < 198 → N 12 (198 * e + i) = M 10 i) ∧ (∀ j : Int, 0 ≤ j → j < 198 * e → N 12 j = F j) ∧ N 1 29 = 0) ∧ (∀ b : Nat, b ≠ 1 → b ≠ 12 → N b = M b) ∧ ∀ i : Int, i ≠ 28 → i ≠ 29 → N 1 i = M 1 i)) 54 [(0, zA g 1), (1, zI k)] [] M1 := by
    intro e F he n
    induction n with
    | zero =>
      intro k M1 h0 hk h28 ha hF hb h1
      refine SX10_act_54 ⟨by omega, fun _ N2 e2 => ⟨⟨?_, fun i p q => ?_, fun j p q => ?_, ?_⟩, fun b p q => ?_, fun i p q => ?_⟩, fun h => by omega⟩
      · rw [zu_row, if_neg (by decide), e2, zu_at, h28]
      · rw [zu_other (by decide), e2, zu_other (by decide)]; exact ha i p (by omega)
      · rw [zu_other (by decide), e2, zu_other (by decide)]; exact hF j p q
      · rw [zu_at]
      · rw [zu_other p, e2, zu_other p, hb b p q]
      · rw [zu_row, if_neg q, e2, zu_row, if_neg p, h1 i p]
    | succ n ih =>
      intro k M1 h0 hk h28 ha hF hb h1
      rw [show mX10_act = mX10_act from rfl]
      refine SX10_act_54 ⟨by omega, fun h => by omega, fun _ => ⟨by omega, by rw [h28]; omega, ?_⟩⟩
      rw [h28]
      refine ih (k + 1) _ (by omega) (by omega) (by rw [zu_other (by decide)]; exact h28) (fun i p q => ?_) (fun j p q => ?_) (fun b p q => by rw [zu_other q, hb b p q]) (fun i p => by rw [zu_other (by decide), h1 i p])
      · rw [zu_row]
        by_cases ei : i = k
        · rw [if_pos (by omega), ei, hb 10 (by decide) (by decide)]
        · rw [if_neg (by omega)]; exact ha i p (by omega)
      · rw [zu_row, if_neg (by omega)]; exact hF j p q
  refine zkv_of rfl (Nat.le_of_ble_eq_true rfl) (SX10_act_0 ⟨by omega, fun h => ?_, fun h => ?_⟩)
  · have t0 := tail d (M 12) (by omega) 198 0 M (by omega) (by omega) hd (fun i p q => by omega) (fun _ _ _ => rfl) (fun _ _ _ => rfl) (fun _ _ => rfl)
    have key : ∀ N : zM, ((N 1 28 = d + 1 ∧ (∀ i : Int, 0 ≤ i → i < 198 → N 12 (198 * d + i) = M 10 i) ∧ (∀ j : Int, 0 ≤ j → j < 198 * d → N 12 j = M 12 j) ∧ N 1 29 = 0) ∧ (∀ b : Nat, b ≠ 1 → b ≠ 12 → N b = M b) ∧ ∀ i : Int, i ≠ 28 → i ≠ 29 → N 1 i = M 1 i) = (acR M N ∧ (∀ b : Nat, b ≠ 1 → b ≠ 12 → N b = M b) ∧ ∀ i : Int, i ≠ 28 → i ≠ 29 → N 1 i = M 1 i) := fun N => by
      unfold acR; rw [hd]
      refine propext ⟨fun q => ⟨⟨fun _ => ⟨q.1.1, q.1.2.1, q.1.2.2.1⟩, fun e => by omega, q.1.2.2.2⟩, q.2⟩, fun q => ⟨?_, q.2⟩⟩
      have z := q.1.1 (by omega)
      exact ⟨z.1, z.2.1, z.2.2, q.1.2.2⟩
    rw [funext key] at t0
    exact t0
  · have hd20 : d = 20 := by omega
    have key : ∀ N : zM, ((N 1 28 = ((19 : Nat) : Int) + 1 ∧ (∀ i : Int, 0 ≤ i → i < 198 → N 12 (198 * ((19 : Nat) : Int) + i) = M 10 i) ∧ (∀ j : Int, 0 ≤ j → j < 198 * ((19 : Nat) : Int) → N 12 j = M 12 (j + 198)) ∧ N 1 29 = 0) ∧ (∀ b : Nat, b ≠ 1 → b ≠ 12 → N b = M b) ∧ ∀ i : Int, i ≠ 28 → i ≠ 29 → N 1 i = M 1 i) = (acR M N ∧ (∀ b : Nat, b ≠ 1 → b ≠ 12 → N b = M b) ∧ ∀ i : Int, i ≠ 28 → i ≠ 29 → N 1 i = M 1 i) := fun N => by
      unfold acR; rw [h]
      refine propext ⟨fun q => ⟨⟨fun e => by omega, fun _ => ⟨q.1.1, fun j p1 p2 => q.1.2.2.1 j p1 p2, fun i p1 p2 => q.1.2.1 i p1 p2⟩, q.1.2.2.2⟩, q.2⟩, fun q => ⟨?_, q.2⟩⟩
      have z := q.1.2.1 rfl
      exact ⟨z.1, fun i p1 p2 => z.2.2 i p1 p2, fun j p1 p2 => z.2.1 j p1 p2, q.1.2.2⟩
    suffices hs : ∀ (n : Nat) (k : Int) (M1 : zM), 198 ≤ k → k + n = 3960 → M1 1 28 = 20 → (∀ j : Int, 0 ≤ j → j < k - 198 → M1 12 j = M 12 (j + 198)) → (∀ j : Int, k - 198 ≤ j → M1 12 j = M 12 j) → (∀ b : Nat, b ≠ 12 → M1 b = M b) → zT g (z2 o) mX10_act (zQv (z2 o) (fun N => acR M N ∧ (∀ b : Nat, b ≠ 1 → b ≠ 12 → N b = M b) ∧ ∀ i : Int, i ≠ 28 → i ≠ 29 → N 1 i = M 1 i)) 13 [(0, zA g 1), (1, zI k)] [] M1 from hs 3762 198 M (by omega) (by omega) h (fun j p q => by omega) (fun _ _ => rfl) (fun _ _ => rfl)
    intro n
    induction n with
    | zero =>
      intro k M1 h0 hk h28 ha hF hb
      refine SX10_act_13 ⟨by omega, fun _ => ?_, fun h => by omega⟩
      rw [← funext key]
      exact tail 19 (fun j => M 12 (j + 198)) (by decide) 198 0 _ (by omega) (by omega) (by rw [zu_at, h28]; rfl) (fun i p q => by omega) (fun j p q => by rw [zu_other (by decide)]; exact ha j p (by omega)) (fun b p q => by rw [zu_other p, hb b q]) (fun i p => by rw [zu_row, if_neg p, hb 1 (by decide)])
    | succ n ih =>
      intro k M1 h0 hk h28 ha hF hb
      refine SX10_act_13 ⟨by omega, fun h => by omega, fun _ => ⟨by omega, by omega, ?_⟩⟩
      refine ih (k + 1) _ (by omega) (by omega) (by rw [zu_other (by decide)]; exact h28) (fun j p q => ?_) (fun j p => ?_) (fun b p => by rw [zu_other p, hb b p])
      · rw [zu_row]
        by_cases ej : j = k - 198
        · rw [if_pos ej, hF k (by omega), ej, show k - 198 + 198 = k by omega]
        · rw [if_neg ej]; exact ha j p (by omega)
      · rw [zu_row, if_neg (by omega)]; exact hF j (by omega)
theorem jHp.ap (h : jHp M1 p) {i j : Nat} (hi : i < 21) (hj : j < 21) (hne : i ≠ j) : p i + 4 ≤ p j ∨ p j + 4 ≤ p i := by
  rcases zsd_apart (zhs_in (h.1 i hi).2).2.2 (zhs_in (h.1 j hj).2).2.2 with e | e
  · exact absurd (h.2 i j hi hj e) hne
  · exact e
/-- an act, on both sides -/
theorem jH.act (h : jH B T C R M1 M2) (ho : rOK C R B T (M2 10)) (hG : Geo C R) (hA : ∀ b : Nat, 36 ≤ b → b ≤ 121 → A1 b = M1 b) : ∃ q : zM → Prop, zKv g (z1 o) mX1_add [zA g 36, zA g 24] A1 q ∧ ∀ N1 : zM, q N1 → (∀ b : Nat, b < 36 ∨ 121 < b → N1 b = A1 b) ∧ ∀ N2 : zM, rEq A1 24 (N2 10) → acR M2 N2 → jH B T C R N1 N2 := by
  obtain ⟨p, d, u, h1, h2, h3, h4, h5, h6, h7, h8, h9⟩ := h
  have hp : ∀ i : Nat, i < 21 → A1 37 (i : Int) = (p i : Int) ∧ zSd (p i) := fun i hi => ⟨by rw [hA 37 (by decide) (by decide)]; exact (h6.1 i hi).1, (zhs_in (h6.1 i hi).2).2.2⟩
  have hc := c_add (g := g) (o := o) (t := 24) (show zSd 24 by unfold zSd; decide) hp (by rw [hA 36 (by decide) (by decide)]; exact h1) (by omega)
  have post : ∀ N1 : zM, ((d < 20 → hAdd A1 N1 p (d + 1) 24) ∧ (d = 20 → hAdd A1 N1 (rot p) 20 24)) → (∀ b : Nat, b < 36 ∨ 121 < b → N1 b = A1 b) ∧ ∀ N2 : zM, rEq A1 24 (N2 10) → acR M2 N2 → jH B T C R N1 N2 := by
    intro N1 hq
    have rng := fun i hi => zhs_in (h6.1 i hi).2
    by_cases hd : d < 20
    · obtain ⟨a1, a2, a3, a4, a5⟩ := hq.1 hd
      have r := rng (d + 1) (by omega)
      refine ⟨fun b hb => a5 b (by omega) (by omega) (by omega) (by omega) (by omega) (by omega), fun N2 hf ha => ?_⟩
      obtain ⟨b1, -, b3⟩ := ha
      rw [h2] at b1
      obtain ⟨b1, b4, b5⟩ := b1 (by omega)
      have keep : ∀ i : Nat, i < 21 → i ≠ d + 1 → ∀ f, rEq M1 (p i) f → rEq N1 (p i) f := fun i hi hne f hf => by
        have ap := h6.ap hi (show d + 1 < 21 by omega) hne
        have ri := rng i hi
        have z36 := zsd_36 ri.2.2
        have nn : ∀ j : Nat, j ≤ 3 → N1 (p i + j) = M1 (p i + j) := fun j hj => by rw [a5 _ (by omega) (by omega) (by omega) (by omega) (by omega) (by omega), hA _ (by omega) (by omega)]
        exact hf.fr (nn 0 (by decide)) (nn 1 (by decide)) (nn 2 (by decide)) (nn 3 (by decide))
      refine ⟨p, d + 1, 0, a2, by rw [b1]; rfl, a3, b3, by omega, ⟨fun i hi => ⟨a1 i hi, (h6.1 i hi).2⟩, h6.2⟩, fun i hi => ?_, fun i p q => by omega, ?_⟩
      · by_cases e : i = d
        · have eq : eqr (M2 10) (rwk (N2 12) i) := fun j p q => by show _ = N2 12 (198 * i + j); rw [e]; exact (b4 j p q).symm
          refine ⟨(keep i (by omega) (by omega) _ (by rw [e]; exact h9)).of eq, ho.of hG eq⟩
        · have eq : eqr (rwk (M2 12) i) (rwk (N2 12) i) := fun j p q => by
            show M2 12 (198 * i + j) = N2 12 (198 * i + j)
            exact (b5 _ (by omega) (by omega)).symm
          obtain ⟨c1, c2⟩ := h7 i (by omega)
          exact ⟨(keep i (by omega) (by omega) _ c1).of eq, c2.of hG eq⟩
      · exact hf.same a4
    · have hd20 : d = 20 := by omega
      obtain ⟨a1, a2, a3, a4, a5⟩ := hq.2 hd20
      have e20 : rot p 20 = p 0 := rfl
      rw [e20] at a4 a5
      have r := rng 0 (by decide)
      refine ⟨fun b hb => a5 b (by omega) (by omega) (by omega) (by omega) (by omega) (by omega), fun N2 hf ha => ?_⟩
      obtain ⟨-, b1, b3⟩ := ha
      rw [h2] at b1
      obtain ⟨b1, b4, b5⟩ := b1 (by omega)
      have keep : ∀ i : Nat, i < 21 → i ≠ 0 → ∀ f, rEq M1 (p i) f → rEq N1 (p i) f := fun i hi hne f hf => by
        have ap := h6.ap hi (show 0 < 21 by omega) hne
        have ri := rng i hi
        have z36 := zsd_36 ri.2.2
        have nn : ∀ j : Nat, j ≤ 3 → N1 (p i + j) = M1 (p i + j) := fun j hj => by rw [a5 _ (by omega) (by omega) (by omega) (by omega) (by omega) (by omega), hA _ (by omega) (by omega)]
        exact hf.fr (nn 0 (by decide)) (nn 1 (by decide)) (nn 2 (by decide)) (nn 3 (by decide))
      have er : ∀ i : Nat, i < 20 → rot p i = p (i + 1) := fun i hi => by unfold rot; rw [if_neg (by omega)]
      refine ⟨rot p, 20, 0, a2, by rw [b1]; rfl, a3, b3, by omega, ⟨fun i hi => ⟨a1 i hi, ?_⟩, fun i j hi hj hij => ?_⟩, fun i hi => ?_, fun i p q => by omega, ?_⟩
      · by_cases e : i = 20
        · rw [e, e20]; exact (h6.1 0 (by decide)).2
        · rw [er i (by omega)]; exact (h6.1 (i + 1) (by omega)).2
      · by_cases e : i = 20
        · by_cases e' : j = 20
          · omega
          · rw [e, e20, er j (by omega)] at hij
            have := h6.2 0 (j + 1) (by decide) (by omega) hij
            omega
        · by_cases e' : j = 20
          · rw [e', e20, er i (by omega)] at hij
            have := h6.2 (i + 1) 0 (by omega) (by decide) hij
            omega
          · rw [er i (by omega), er j (by omega)] at hij
            have := h6.2 (i + 1) (j + 1) (by omega) (by omega) hij
            omega
      · rw [er i hi]
        by_cases e : i = 19
        · have eq : eqr (M2 10) (rwk (N2 12) i) := fun j p q => by show _ = N2 12 (198 * i + j); rw [e]; exact (b5 j p q).symm
          have h9' : rEq M1 (p (i + 1)) (M2 10) := by rw [e, show 19 + 1 = d by omega]; exact h9
          exact ⟨(keep (i + 1) (by omega) (by omega) _ h9').of eq, ho.of hG eq⟩
        · have eq : eqr (rwk (M2 12) ((i + 1 : Nat) : Int)) (rwk (N2 12) i) := fun j p q => by
            show M2 12 (198 * ((i + 1 : Nat) : Int) + j) = N2 12 (198 * i + j)
            rw [b4 _ (by omega) (by omega)]
            congr 1; omega
          obtain ⟨c1, c2⟩ := h7 (i + 1) (by omega)
          exact ⟨(keep (i + 1) (by omega) (by omega) _ c1).of eq, c2.of hG eq⟩
      · rw [e20]; exact hf.same a4
  exact ⟨_, hc, post⟩
end HC
