/-! cells that hang together, by a queue -/
abbrev Fl : Type := (Int → Int) × List Int
noncomputable def rchP (P : Int → Prop) (m : Int) (s : Fl) (c : Int) : Fl := if zb (P c ∧ s.1 c = -1) = 1 then (up s.1 c m, s.2 ++ [c]) else s
noncomputable def rchs (P : Int → Prop) (m : Int) (T : Int → Nat → Int) (c : Int) : Nat → Fl → Fl
  | 0, s => s
  | j + 1, s => rchP P m (rchs P m T c j s) (T c j)
noncomputable def flo (P : Int → Prop) (m : Int) (T : Int → Nat → Int) (K : Nat) : Nat → Nat → Fl → Fl
  | 0, _, s => s
  | f + 1, i, s => if i < s.2.length then flo P m T K f (i + 1) (rchs P m T (s.2.getD i 0) K s) else s
noncomputable def joi (P : Int → Prop) (T : Int → Nat → Int) (K : Nat) : Nat → (Int → Int) × Int
  | 0 => (fun _ => -1, 0)
  | c + 1 => if zb (P c ∧ (joi P T K c).1 c = -1) = 1 then ((flo P (joi P T K c).2 T K 97 0 (rchP P (joi P T K c).2 ((joi P T K c).1, []) c)).1, (joi P T K c).2 + 1) else joi P T K c
def T4 (C R c : Int) (j : Nat) : Int := alg C R c j 1
def T8 (C R c : Int) (j : Nat) : Int := if j % 2 = 0 then alg C R c (j / 2 : Nat) 1 else alg C R (alg C R c (j / 2 : Nat) 1) (((j / 2 : Nat) + 1) % 4) 1
def T9 (C R c : Int) (j : Nat) : Int := alg C R (alg C R c 0 ((j % 3 : Nat) + C - 1)) 1 ((j / 3 : Nat) + R - 1)
def Wf (C R : Int) (s : Fl) : Prop := (s.2.length : Int) ≤ cnt (fun c => s.1 c ≠ -1) (C * R).toNat ∧ (∀ i : Nat, i < s.2.length → 0 ≤ s.2.getD i 0 ∧ s.2.getD i 0 < C * R) ∧ ∀ c : Int, 0 ≤ c → c < C * R → -1 ≤ s.1 c ∧ s.1 c ≤ 96
section FL
variable {C R c m : Int} {P P' : Int → Prop} {T : Int → Nat → Int} {s : Fl} {K : Nat}
theorem gd_1 {Q : List Int} {i : Nat} (h : i < Q.length) (c : Int) : (Q ++ [c]).getD i 0 = Q.getD i 0 := by
  simp [List.getD_eq_getElem?_getD, List.getElem?_append, h]
theorem gd_2 (Q : List Int) (c : Int) : (Q ++ [c]).getD Q.length 0 = c := by
  simp [List.getD_eq_getElem?_getD]
theorem cnt_up {n : Nat} (h0 : 0 ≤ c) (h1 : c < n) (hp : ¬ P c) (hp' : P' c) (h : ∀ i : Int, i ≠ c → (P i ↔ P' i)) : cnt P' n = cnt P n + 1 := by
  induction n with
  | zero => omega
  | succ n ih =>
    show cnt P' n + zb (P' n) = cnt P n + zb (P n) + 1
    by_cases e : c = n
    · have hc : cnt P' n = cnt P n := cnt_congr (fun i a b => (h i (by omega)).symm)
      rw [hc, ← e, zb_t hp', zb_f hp]; omega
    · rw [ih (by omega), zb_congr (h n (by omega))]; omega
theorem cnt_lt1 {n : Nat} (h0 : 0 ≤ c) (h1 : c < n) (hp : ¬ P c) : cnt P n + 1 ≤ n := by
  have h := cnt_up (P := P) (P' := fun i => P i ∨ i = c) h0 h1 hp (Or.inr rfl) (fun i hi => ⟨Or.inl, fun h => h.elim id (fun e => absurd e hi)⟩)
  have := (cnt_in (fun i => P i ∨ i = c) n).2
  omega
theorem rchP_t (h1 : P c) (h2 : s.1 c = -1) : rchP P m s c = (up s.1 c m, s.2 ++ [c]) := by unfold rchP; rw [if_pos (zb_t ⟨h1, h2⟩)]
theorem rchP_f (h : ¬ (P c ∧ s.1 c = -1)) : rchP P m s c = s := by unfold rchP; rw [if_neg (by rw [zb_f h]; decide)]
theorem Wf.len (hG : Geo C R) (h : Wf C R s) : s.2.length ≤ 96 := by
  have hn := geo_n hG
  have := (cnt_in (fun c => s.1 c ≠ -1) (C * R).toNat).2
  have := h.1
  omega
theorem Wf.lt (hG : Geo C R) (h : Wf C R s) (hc : 0 ≤ c ∧ c < C * R) (h1 : s.1 c = -1) : s.2.length < 96 := by
  have hn := geo_n hG
  have := cnt_lt1 (P := fun c => s.1 c ≠ -1) (n := (C * R).toNat) hc.1 (by omega) (fun h => h h1)
  have := h.1
  omega
theorem Wf.rc (h : Wf C R s) (hc : 0 ≤ c ∧ c < C * R) (hm : 0 ≤ m ∧ m ≤ 96) : Wf C R (rchP P m s c) := by
  by_cases hp : P c ∧ s.1 c = -1
  · rw [rchP_t hp.1 hp.2]
    refine ⟨?_, fun i hi => ?_, fun d a b => ?_⟩
    · have e := cnt_up (P := fun c => s.1 c ≠ -1) (P' := fun d => up s.1 c m d ≠ -1) (n := (C * R).toNat) hc.1 (by omega) (fun h => h hp.2) (by unfold up; rw [if_pos rfl]; omega) (fun i hi => by unfold up; rw [if_neg hi])
      have := h.1
      simp only [List.length_append, List.length_cons, List.length_nil]
      omega
    · simp only [List.length_append, List.length_cons, List.length_nil] at hi
      by_cases e : i < s.2.length
      · show 0 ≤ (s.2 ++ [c]).getD i 0 ∧ (s.2 ++ [c]).getD i 0 < _
        rw [gd_1 e]; exact h.2.1 i e
      · show 0 ≤ (s.2 ++ [c]).getD i 0 ∧ (s.2 ++ [c]).getD i 0 < _
        rw [show i = s.2.length by omega, gd_2]; exact hc
    · show -1 ≤ up s.1 c m d ∧ up s.1 c m d ≤ 96
      unfold up; split
      · omega
      · exact h.2.2 d a b
  · rw [rchP_f hp]; exact h
theorem Wf.rcs (h : Wf C R s) (hT : ∀ j : Nat, 0 ≤ T c j ∧ T c j < C * R) (hm : 0 ≤ m ∧ m ≤ 96) (j : Nat) : Wf C R (rchs P m T c j s) := by
  induction j with
  | zero => exact h
  | succ j ih => exact ih.rc (hT j) hm
/-- a queue only grows -/
theorem rch_get {i : Nat} (h : i < s.2.length) : i < (rchP P m s c).2.length ∧ (rchP P m s c).2.getD i 0 = s.2.getD i 0 := by
  by_cases hp : P c ∧ s.1 c = -1
  · rw [rchP_t hp.1 hp.2]
    exact ⟨by simp only [List.length_append, List.length_cons, List.length_nil]; omega, gd_1 h c⟩
  · rw [rchP_f hp]; exact ⟨h, rfl⟩
theorem rchs_get {i : Nat} {d : Int} (h : i < s.2.length) (j : Nat) : i < (rchs P m T d j s).2.length ∧ (rchs P m T d j s).2.getD i 0 = s.2.getD i 0 := by
  induction j with
  | zero => exact ⟨h, rfl⟩
  | succ j ih =>
    have := rch_get (P := P) (m := m) (c := T d j) ih.1
    exact ⟨this.1, this.2.trans ih.2⟩
theorem joi_t {k : Nat} (h : P k ∧ (joi P T K k).1 k = -1) : joi P T K (k + 1) = ((flo P (joi P T K k).2 T K 97 0 (rchP P (joi P T K k).2 ((joi P T K k).1, []) k)).1, (joi P T K k).2 + 1) := by
  show (if _ then _ else _) = _; rw [if_pos (zb_t h)]
theorem joi_f {k : Nat} (h : ¬ (P k ∧ (joi P T K k).1 k = -1)) : joi P T K (k + 1) = joi P T K k := by
  show (if _ then _ else _) = _; rw [if_neg (by rw [zb_f h]; decide)]
theorem T4_in (hG : Geo C R) (hc : 0 ≤ c ∧ c < C * R) (j : Nat) : 0 ≤ T4 C R c j ∧ T4 C R c j < C * R := alg_in hG hc
theorem T8_in (hG : Geo C R) (hc : 0 ≤ c ∧ c < C * R) (j : Nat) : 0 ≤ T8 C R c j ∧ T8 C R c j < C * R := by
  unfold T8; split
  · exact alg_in hG hc
  · exact alg_in hG (alg_in hG hc)
theorem T9_in (hG : Geo C R) (hc : 0 ≤ c ∧ c < C * R) (j : Nat) : 0 ≤ T9 C R c j ∧ T9 C R c j < C * R := alg_in hG (alg_in hG hc)
theorem Wf.fl (hG : Geo C R) (hT : ∀ d : Int, 0 ≤ d ∧ d < C * R → ∀ j : Nat, 0 ≤ T d j ∧ T d j < C * R) (hm : 0 ≤ m ∧ m ≤ 96) (f i : Nat) (h : Wf C R s) : Wf C R (flo P m T K f i s) := by
  induction f generalizing i s with
  | zero => exact h
  | succ f ih =>
    unfold flo
    split
    · rename_i hi
      exact ih (i + 1) (h.rcs (hT _ (h.2.1 i hi)) hm K)
    · exact h
theorem joi_wf (hG : Geo C R) (hT : ∀ d : Int, 0 ≤ d ∧ d < C * R → ∀ j : Nat, 0 ≤ T d j ∧ T d j < C * R) (k : Nat) (hk : k ≤ (C * R).toNat) : Wf C R ((joi P T K k).1, []) ∧ 0 ≤ (joi P T K k).2 ∧ (joi P T K k).2 ≤ k := by
  have hn := geo_n hG
  induction k with
  | zero => exact ⟨⟨by show (0 : Int) ≤ _; exact (cnt_in _ _).1, fun i hi => by simp at hi, fun c _ _ => ⟨Int.le_refl _, by show (-1 : Int) ≤ 96; decide⟩⟩, Int.le_refl 0, Int.le_refl 0⟩
  | succ k ih =>
    obtain ⟨a, b, d⟩ := ih (by omega)
    by_cases hp : P k ∧ (joi P T K k).1 k = -1
    · rw [joi_t hp]
      have w1 : Wf C R (rchP P (joi P T K k).2 ((joi P T K k).1, []) k) := a.rc (by omega) (by omega)
      have w2 := w1.fl (P := P) (m := (joi P T K k).2) (T := T) (K := K) hG hT (by omega) 97 0
      refine ⟨⟨?_, fun i hi => by simp at hi, w2.2.2⟩, by show 0 ≤ (joi P T K k).2 + 1; omega, by show (joi P T K k).2 + 1 ≤ ((k + 1 : Nat) : Int); omega⟩
      show (0 : Int) ≤ _; exact (cnt_in _ _).1
    · rw [joi_f hp]; exact ⟨a, b, by omega⟩
end FL
