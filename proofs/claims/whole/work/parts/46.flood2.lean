section FM
variable {C R c m : Int} {P P' : Int → Prop} {T : Int → Nat → Int} {s : Fl} {K : Nat}
theorem rch_keep {d : Int} (h : s.1 d ≠ -1) : (rchP P m s c).1 d = s.1 d := by
  by_cases hp : P c ∧ s.1 c = -1
  · rw [rchP_t hp.1 hp.2]
    show up s.1 c m d = _
    unfold up
    rw [if_neg (fun e => h (by rw [e]; exact hp.2))]
  · rw [rchP_f hp]
theorem rch_lab (d : Int) : (rchP P m s c).1 d = s.1 d ∨ ((rchP P m s c).1 d = m ∧ P d) := by
  by_cases hp : P c ∧ s.1 c = -1
  · rw [rchP_t hp.1 hp.2]
    by_cases e : d = c
    · refine Or.inr ⟨?_, by rw [e]; exact hp.1⟩
      show up s.1 c m d = m
      unfold up; rw [if_pos e]
    · refine Or.inl ?_
      show up s.1 c m d = _
      unfold up; rw [if_neg e]
  · rw [rchP_f hp]; exact Or.inl rfl
theorem rchs_keep {d e : Int} (j : Nat) (h : s.1 d ≠ -1) : (rchs P m T e j s).1 d = s.1 d := by
  induction j with
  | zero => rfl
  | succ j ih =>
    show (rchP P m _ _).1 d = _
    rw [rch_keep (by rw [ih]; exact h), ih]
theorem rchs_lab {e : Int} (j : Nat) (d : Int) : (rchs P m T e j s).1 d = s.1 d ∨ ((rchs P m T e j s).1 d = m ∧ P d) := by
  induction j with
  | zero => exact Or.inl rfl
  | succ j ih =>
    rcases rch_lab (P := P) (m := m) (s := rchs P m T e j s) (c := T e j) d with h | h
    · rcases ih with q | q
      · exact Or.inl (h.trans q)
      · exact Or.inr ⟨h.trans q.1, q.2⟩
    · exact Or.inr h
theorem flo_keep {d : Int} (f i : Nat) (h : s.1 d ≠ -1) : (flo P m T K f i s).1 d = s.1 d := by
  induction f generalizing i s with
  | zero => rfl
  | succ f ih =>
    unfold flo
    split
    · rw [ih (i + 1) (by rw [rchs_keep K h]; exact h), rchs_keep K h]
    · rfl
theorem flo_lab (f i : Nat) (d : Int) : (flo P m T K f i s).1 d = s.1 d ∨ ((flo P m T K f i s).1 d = m ∧ P d) := by
  induction f generalizing i s with
  | zero => exact Or.inl rfl
  | succ f ih =>
    unfold flo
    split
    · rcases ih (i + 1) (s := rchs P m T (s.2.getD i 0) K s) with h | h
      · rcases rchs_lab (P := P) (m := m) (T := T) (s := s) (e := s.2.getD i 0) K d with q | q
        · exact Or.inl (h.trans q)
        · exact Or.inr ⟨h.trans q.1, q.2⟩
      · exact Or.inr h
    · exact Or.inl rfl
theorem joi_nn (k : Nat) : 0 ≤ (joi P T K k).2 ∧ (joi P T K k).2 ≤ k := by
  induction k with
  | zero => exact ⟨Int.le_refl 0, Int.le_refl 0⟩
  | succ k ih =>
    by_cases h : P k ∧ (joi P T K k).1 k = -1
    · rw [joi_t h]; show 0 ≤ (joi P T K k).2 + 1 ∧ (joi P T K k).2 + 1 ≤ ((k + 1 : Nat) : Int); omega
    · rw [joi_f h]; omega
/-- labels: below their number, on cells of the kind alone, each of them somewhere -/
theorem joi_lab (k : Nat) (d : Int) : (joi P T K k).1 d = -1 ∨ (0 ≤ (joi P T K k).1 d ∧ (joi P T K k).1 d < (joi P T K k).2 ∧ P d) := by
  induction k with
  | zero => exact Or.inl rfl
  | succ k ih =>
    have hn := joi_nn (P := P) (T := T) (K := K) k
    by_cases h : P k ∧ (joi P T K k).1 k = -1
    · rw [joi_t h]
      show (flo P (joi P T K k).2 T K 97 0 _).1 d = -1 ∨ (0 ≤ (flo P (joi P T K k).2 T K 97 0 _).1 d ∧ (flo P (joi P T K k).2 T K 97 0 _).1 d < (joi P T K k).2 + 1 ∧ P d)
      have key : (rchP P (joi P T K k).2 ((joi P T K k).1, []) k).1 d = (joi P T K k).1 d ∨ ((rchP P (joi P T K k).2 ((joi P T K k).1, []) k).1 d = (joi P T K k).2 ∧ P d) := rch_lab d
      rcases flo_lab (P := P) (m := (joi P T K k).2) (T := T) (K := K) (s := rchP P (joi P T K k).2 ((joi P T K k).1, []) k) 97 0 d with q | q
      · rcases key with r | r
        · rw [q, r]
          rcases ih with i | i
          · exact Or.inl i
          · exact Or.inr ⟨i.1, by omega, i.2.2⟩
        · exact Or.inr ⟨by rw [q, r.1]; omega, by rw [q, r.1]; omega, r.2⟩
      · exact Or.inr ⟨by rw [q.1]; omega, by rw [q.1]; omega, q.2⟩
    · rw [joi_f h]; exact ih
theorem joi_keep (k : Nat) {d : Int} (h : (joi P T K k).1 d ≠ -1) (j : Nat) : (joi P T K (k + j)).1 d = (joi P T K k).1 d := by
  induction j with
  | zero => rfl
  | succ j ih =>
    by_cases q : P ((k + j : Nat) : Int) ∧ (joi P T K (k + j)).1 ((k + j : Nat) : Int) = -1
    · rw [show k + (j + 1) = k + j + 1 by omega, joi_t q]
      show (flo P _ T K 97 0 _).1 d = _
      have h1 : (rchP P (joi P T K (k + j)).2 ((joi P T K (k + j)).1, []) ((k + j : Nat) : Int)).1 d = (joi P T K (k + j)).1 d := rch_keep (by show (joi P T K (k + j)).1 d ≠ -1; rw [ih]; exact h)
      rw [flo_keep 97 0 (by rw [h1, ih]; exact h), h1, ih]
    · rw [show k + (j + 1) = k + j + 1 by omega, joi_f q, ih]
theorem joi_in (k : Nat) {d : Nat} (hd : d < k) (hP : P d) : (joi P T K k).1 d ≠ -1 := by
  have h1 : (joi P T K (d + 1)).1 d ≠ -1 := by
    have hn := joi_nn (P := P) (T := T) (K := K) d
    by_cases q : P d ∧ (joi P T K d).1 d = -1
    · rw [joi_t q]
      show (flo P _ T K 97 0 _).1 d ≠ -1
      have e : (rchP P (joi P T K d).2 ((joi P T K d).1, []) d).1 d = (joi P T K d).2 := by
        rw [rchP_t q.1 q.2]; show up _ _ _ _ = _; unfold up; rw [if_pos rfl]
      rw [flo_keep 97 0 (by rw [e]; omega), e]; omega
    · rw [joi_f q]; exact fun h => q ⟨hP, h⟩
  have := joi_keep (P := P) (T := T) (K := K) (d + 1) h1 (k - (d + 1))
  rw [show d + 1 + (k - (d + 1)) = k by omega] at this
  rw [this]; exact h1
theorem joi_ex (k : Nat) {d : Int} (h0 : 0 ≤ d) (h1 : d < (joi P T K k).2) : ∃ c : Nat, c < k ∧ (joi P T K k).1 c = d := by
  induction k with
  | zero => have : d < 0 := h1; omega
  | succ k ih =>
    have hn := joi_nn (P := P) (T := T) (K := K) k
    by_cases q : P k ∧ (joi P T K k).1 k = -1
    · have e2 : (joi P T K (k + 1)).2 = (joi P T K k).2 + 1 := by rw [joi_t q]
      by_cases hd : d = (joi P T K k).2
      · refine ⟨k, by omega, ?_⟩
        rw [joi_t q]
        show (flo P _ T K 97 0 _).1 k = d
        have e : (rchP P (joi P T K k).2 ((joi P T K k).1, []) k).1 k = (joi P T K k).2 := by
          rw [rchP_t q.1 q.2]; show up _ _ _ _ = _; unfold up; rw [if_pos rfl]
        rw [flo_keep 97 0 (by rw [e]; omega), e, hd]
      · obtain ⟨c, hc, e⟩ := ih (by omega)
        refine ⟨c, by omega, ?_⟩
        have := joi_keep (P := P) (T := T) (K := K) k (d := c) (by rw [e]; omega) 1
        rw [this, e]
    · rw [joi_f q] at h1 ⊢
      obtain ⟨c, hc, e⟩ := ih h1
      exact ⟨c, by omega, e⟩
theorem rch_cg (h : P c ↔ P' c) : rchP P m s c = rchP P' m s c := by
  unfold rchP; rw [zb_congr (and_congr h Iff.rfl)]
theorem rchs_cg {e : Int} (hP : ∀ c : Int, 0 ≤ c → c < C * R → (P c ↔ P' c)) (hT : ∀ j : Nat, 0 ≤ T e j ∧ T e j < C * R) (j : Nat) : rchs P m T e j s = rchs P' m T e j s := by
  induction j with
  | zero => rfl
  | succ j ih =>
    show rchP P m _ _ = rchP P' m _ _
    rw [ih, rch_cg (hP _ (hT j).1 (hT j).2)]
theorem flo_cg (hP : ∀ c : Int, 0 ≤ c → c < C * R → (P c ↔ P' c)) (hT : ∀ d : Int, 0 ≤ d ∧ d < C * R → ∀ j : Nat, 0 ≤ T d j ∧ T d j < C * R) (hm : 0 ≤ m ∧ m ≤ 96) (f i : Nat) (hW : Wf C R s) : flo P m T K f i s = flo P' m T K f i s := by
  induction f generalizing i s with
  | zero => rfl
  | succ f ih =>
    unfold flo
    split
    · rename_i hi
      rw [rchs_cg hP (hT _ (hW.2.1 i hi)) K]
      exact ih (i + 1) (hW.rcs (hT _ (hW.2.1 i hi)) hm K)
    · rfl
theorem joi_cg (hG : Geo C R) (hP : ∀ c : Int, 0 ≤ c → c < C * R → (P c ↔ P' c)) (hT : ∀ d : Int, 0 ≤ d ∧ d < C * R → ∀ j : Nat, 0 ≤ T d j ∧ T d j < C * R) (k : Nat) (hk : k ≤ (C * R).toNat) : joi P T K k = joi P' T K k := by
  have hn := geo_n hG
  induction k with
  | zero => rfl
  | succ k ih =>
    have e := ih (by omega)
    have w := joi_wf (P := P') (K := K) hG hT k (by omega)
    unfold joi
    rw [e, zb_congr (and_congr (hP k (by omega) (by omega)) Iff.rfl), rch_cg (hP k (by omega) (by omega)), flo_cg hP hT ⟨w.2.1, by omega⟩ 97 0 (w.1.rc (by omega) (by omega))]
theorem joi_none (h : ∀ c : Nat, ¬ P c) (k : Nat) : joi P T K k = (fun _ => -1, 0) := by
  induction k with
  | zero => rfl
  | succ k ih => rw [joi_f (fun q => h k q.1), ih]
end FM
