/-! floods by other orders -/
def cl (C R : Int) (P : Int → Prop) (L0 : Int → Int) (T : Int → Nat → Int) (K : Nat) (S : Int → Prop) : Prop := ∀ (c : Int) (j : Nat), 0 ≤ c → c < C * R → S c → j < K → P (T c j) → L0 (T c j) = -1 → S (T c j)
def Rea (C R : Int) (P : Int → Prop) (L0 : Int → Int) (T : Int → Nat → Int) (K : Nat) (c0 d : Int) : Prop := ∀ S : Int → Prop, S c0 → cl C R P L0 T K S → S d
def fI (L0 : Int → Int) (m : Int) (S : Int → Prop) (s : Fl) : Prop := (∀ d : Int, s.1 d = L0 d ∨ (s.1 d = m ∧ L0 d = -1 ∧ ∃ i : Nat, i < s.2.length ∧ s.2.getD i 0 = d)) ∧ ∀ i : Nat, i < s.2.length → S (s.2.getD i 0) ∧ s.1 (s.2.getD i 0) = m
def f3 (P : Int → Prop) (T : Int → Nat → Int) (K : Nat) (i : Nat) (s : Fl) : Prop := ∀ i' : Nat, i' < i → i' < s.2.length → ∀ j : Nat, j < K → P (T (s.2.getD i' 0) j) → s.1 (T (s.2.getD i' 0) j) ≠ -1
section RE
variable {C R c c0 d m : Int} {P : Int → Prop} {T T' : Int → Nat → Int} {K K' : Nat} {s : Fl} {L0 : Int → Int} {S : Int → Prop}
theorem fI.rc (h : fI L0 m S s) (hm : m ≠ -1) (hS : P c → L0 c = -1 → S c) : fI L0 m S (rchP P m s c) := by
  by_cases hp : P c ∧ s.1 c = -1
  · have h0 : L0 c = -1 := by
      rcases h.1 c with e | e
      · rw [← e]; exact hp.2
      · exact absurd (e.1.symm.trans hp.2) hm
    rw [rchP_t hp.1 hp.2]
    refine ⟨fun d => ?_, fun i hi => ?_⟩
    · by_cases e : d = c
      · refine Or.inr ⟨?_, by rw [e]; exact h0, s.2.length, by simp, by rw [e]; exact gd_2 s.2 c⟩
        show up s.1 c m d = m
        unfold up; rw [if_pos e]
      · have eu : up s.1 c m d = s.1 d := by unfold up; rw [if_neg e]
        rcases h.1 d with q | ⟨q1, q2, i, hi, q3⟩
        · exact Or.inl (eu.trans q)
        · refine Or.inr ⟨eu.trans q1, q2, i, ?_, ?_⟩
          · simp only [List.length_append, List.length_cons, List.length_nil]; omega
          · show (s.2 ++ [c]).getD i 0 = d
            rw [gd_1 hi]; exact q3
    · simp only [List.length_append, List.length_cons, List.length_nil] at hi
      by_cases e : i < s.2.length
      · have q := h.2 i e
        show S ((s.2 ++ [c]).getD i 0) ∧ up s.1 c m ((s.2 ++ [c]).getD i 0) = m
        rw [gd_1 e]
        refine ⟨q.1, ?_⟩
        unfold up; split
        · rfl
        · exact q.2
      · show S ((s.2 ++ [c]).getD i 0) ∧ up s.1 c m ((s.2 ++ [c]).getD i 0) = m
        rw [show i = s.2.length by omega, gd_2]
        exact ⟨hS hp.1 h0, by unfold up; rw [if_pos rfl]⟩
  · rw [rchP_f hp]; exact h
theorem fI.rcs {e : Int} (h : fI L0 m S s) (hm : m ≠ -1) (j : Nat) (hS : ∀ i : Nat, i < j → P (T e i) → L0 (T e i) = -1 → S (T e i)) : fI L0 m S (rchs P m T e j s) := by
  induction j with
  | zero => exact h
  | succ j ih => exact (ih (fun i hi => hS i (by omega))).rc hm (hS j (by omega))
theorem rchs_done {e : Int} (hm : m ≠ -1) (j : Nat) (i : Nat) (hi : i < j) (hp : P (T e i)) : (rchs P m T e j s).1 (T e i) ≠ -1 := by
  induction j with
  | zero => omega
  | succ j ih =>
    show (rchP P m (rchs P m T e j s) (T e j)).1 (T e i) ≠ -1
    by_cases q : (rchs P m T e j s).1 (T e i) = -1
    · have hij : i = j := Classical.byContradiction fun hne => ih (by omega) q
      subst hij
      rw [rchP_t hp q]
      show up _ _ _ _ ≠ -1
      unfold up; rw [if_pos rfl]; exact hm
    · rw [rch_keep q]; exact q
theorem flo_inv (hG : Geo C R) (hT : ∀ d : Int, 0 ≤ d ∧ d < C * R → ∀ j : Nat, 0 ≤ T d j ∧ T d j < C * R) (hm : 0 ≤ m ∧ m ≤ 96) (hS : cl C R P L0 T K S) (f i : Nat) (hf : i + f = 97) (hW : Wf C R s) (hI : fI L0 m S s) (h3 : f3 P T K i s) : fI L0 m S (flo P m T K f i s) ∧ f3 P T K 97 (flo P m T K f i s) ∧ (flo P m T K f i s).2.length ≤ 96 := by
  induction f generalizing i s with
  | zero => exact ⟨hI, by rw [show i = 97 by omega] at h3; exact h3, hW.len hG⟩
  | succ f ih =>
    by_cases hi : i < s.2.length
    · have e : flo P m T K (f + 1) i s = flo P m T K f (i + 1) (rchs P m T (s.2.getD i 0) K s) := by show (if _ then _ else _) = _; rw [if_pos hi]
      rw [e]
      have hc := hW.2.1 i hi
      have hq := hI.2 i hi
      refine ih (i + 1) (by omega) (hW.rcs (hT _ hc) hm K) (hI.rcs (by omega) K (fun j hj a b => hS _ j hc.1 hc.2 hq.1 hj a b)) (fun i' h1 h2 j hj hp => ?_)
      have gt : i' < s.2.length := by omega
      have g := rchs_get (P := P) (m := m) (T := T) (d := s.2.getD i 0) gt K
      rw [g.2] at hp ⊢
      by_cases z : i' = i
      · rw [z] at hp ⊢; exact rchs_done (by omega) K j hj hp
      · have := h3 i' (by omega) gt j hj hp
        rw [rchs_keep K this]; exact this
    · have e : flo P m T K (f + 1) i s = s := by show (if _ then _ else _) = _; rw [if_neg hi]
      rw [e]
      exact ⟨hI, fun i' h1 h2 => h3 i' (by omega) h2, hW.len hG⟩
theorem flo_rea (hG : Geo C R) (hT : ∀ d : Int, 0 ≤ d ∧ d < C * R → ∀ j : Nat, 0 ≤ T d j ∧ T d j < C * R) (hm : 0 ≤ m ∧ m ≤ 96) (hc : 0 ≤ c0 ∧ c0 < C * R) (hW : Wf C R (L0, [])) (hp : P c0) (h0 : L0 c0 = -1) (d : Int) :
    (Rea C R P L0 T K c0 d → (flo P m T K 97 0 (rchP P m (L0, []) c0)).1 d = m) ∧ (¬ Rea C R P L0 T K c0 d → (flo P m T K 97 0 (rchP P m (L0, []) c0)).1 d = L0 d) := by
  have w1 : Wf C R (rchP P m (L0, []) c0) := hW.rc hc hm
  have st : ∀ S : Int → Prop, S c0 → fI L0 m S (rchP P m (L0, []) c0) := fun S hs => fI.rc (s := (L0, [])) ⟨fun d => Or.inl rfl, fun i hi => by simp at hi⟩ (by omega) (fun _ _ => hs)
  have s3 : f3 P T K 0 (rchP P m (L0, []) c0) := fun i' h => by omega
  refine ⟨fun hr => ?_, fun hr => ?_⟩
  · obtain ⟨a, b, l⟩ := flo_inv (S := fun _ => True) (L0 := L0) hG hT hm (fun _ _ _ _ _ _ _ _ => trivial) 97 0 rfl w1 (st _ trivial) s3
    have key : ∀ d : Int, (flo P m T K 97 0 (rchP P m (L0, []) c0)).1 d ≠ -1 → L0 d = -1 → ∃ i : Nat, i < (flo P m T K 97 0 (rchP P m (L0, []) c0)).2.length ∧ (flo P m T K 97 0 (rchP P m (L0, []) c0)).2.getD i 0 = d := fun d h1 h2 => by
      rcases a.1 d with q | ⟨-, -, q⟩
      · exact absurd (q.trans h2) h1
      · exact q
    have k0 : (flo P m T K 97 0 (rchP P m (L0, []) c0)).1 c0 ≠ -1 := by
      have e : (rchP P m (L0, []) c0).1 c0 = m := by
        rw [rchP_t hp h0]; show up _ _ _ _ = _; unfold up; rw [if_pos rfl]
      rw [flo_keep 97 0 (by rw [e]; omega), e]; omega
    obtain ⟨i, hi, e⟩ := hr (fun d => ∃ i : Nat, i < (flo P m T K 97 0 (rchP P m (L0, []) c0)).2.length ∧ (flo P m T K 97 0 (rchP P m (L0, []) c0)).2.getD i 0 = d) (key c0 k0 h0) (fun c j a1 a2 ⟨i, hi, e⟩ hj hp' h0' => key _ (by rw [← e] at hp' ⊢; exact b i (by omega) hi j hj hp') h0')
    rw [← e]; exact (a.2 i hi).2
  · apply Classical.byContradiction
    intro hne
    apply hr
    intro S hs hcl
    obtain ⟨a, b, l⟩ := flo_inv (S := S) (L0 := L0) hG hT hm hcl 97 0 rfl w1 (st _ hs) s3
    rcases a.1 d with q | ⟨-, -, i, hi, e⟩
    · exact absurd q hne
    · rw [← e]; exact (a.2 i hi).1
/-- the same neighbours, but for the cell itself -/
def nbs (C R : Int) (T T' : Int → Nat → Int) (K K' : Nat) : Prop := ∀ c : Int, 0 ≤ c → c < C * R → ∀ j : Nat, j < K → (∃ j' : Nat, j' < K' ∧ T' c j' = T c j) ∨ T c j = c
theorem Rea_mono (h : nbs C R T' T K' K) (hr : Rea C R P L0 T' K' c0 d) : Rea C R P L0 T K c0 d := by
  intro S hs hcl
  refine hr S hs (fun c j a b hc hj hp h0 => ?_)
  rcases h c a b j hj with ⟨j', hj', e⟩ | e
  · rw [← e] at hp h0 ⊢; exact hcl c j' a b hc hj' hp h0
  · rw [e]; exact hc
theorem joi_nb (hG : Geo C R) (hT : ∀ d : Int, 0 ≤ d ∧ d < C * R → ∀ j : Nat, 0 ≤ T d j ∧ T d j < C * R) (hT' : ∀ d : Int, 0 ≤ d ∧ d < C * R → ∀ j : Nat, 0 ≤ T' d j ∧ T' d j < C * R) (h1 : nbs C R T T' K K') (h2 : nbs C R T' T K' K) (k : Nat) (hk : k ≤ (C * R).toNat) : joi P T K k = joi P T' K' k := by
  have hn := geo_n hG
  induction k with
  | zero => rfl
  | succ k ih =>
    have e := ih (by omega)
    obtain ⟨w1, w2, w3⟩ := joi_wf (P := P) (K := K') hG hT' k (by omega)
    by_cases hp : P k ∧ (joi P T' K' k).1 k = -1
    · rw [joi_t hp, joi_t (by rw [e]; exact hp), e]
      congr 1
      funext d
      have a := flo_rea (T := T) (K := K) (P := P) (m := (joi P T' K' k).2) (c0 := (k : Int)) hG hT (by omega) (by omega) w1 hp.1 hp.2 d
      have b := flo_rea (T := T') (K := K') (P := P) (m := (joi P T' K' k).2) (c0 := (k : Int)) hG hT' (by omega) (by omega) w1 hp.1 hp.2 d
      by_cases q : Rea C R P (joi P T' K' k).1 T K (k : Int) d
      · rw [a.1 q, b.1 (Rea_mono h1 q)]
      · rw [a.2 q, b.2 (fun q' => q (Rea_mono h2 q'))]
    · rw [joi_f hp, joi_f (by rw [e]; exact hp), e]
/-- a cell by steps south and east -/
def pp (C R c a b : Int) : Int := C * ((c / C + a) % R) + (c % C + b) % C
theorem pp_a (a b : Int) : pp C R c (a + R) b = pp C R c a b := by unfold pp; rw [← Int.add_assoc, Int.add_emod_right]
theorem pp_b (a b : Int) : pp C R c a (b + C) = pp C R c a b := by unfold pp; rw [← Int.add_assoc, Int.add_emod_right]
theorem pp_0 (hG : Geo C R) (hc : 0 ≤ c ∧ c < C * R) : (∀ b : Int, pp C R c 0 b = C * (c / C) + (c % C + b) % C) ∧ (∀ a : Int, pp C R c a 0 = C * ((c / C + a) % R) + c % C) := by
  have q := xy hG hc
  constructor <;> intro z <;> unfold pp
  · rw [Int.add_zero, Int.emod_eq_of_lt q.2.1.1 q.2.1.2]
  · rw [Int.add_zero, Int.emod_eq_of_lt q.1.1 q.1.2]
theorem pp_00 (hG : Geo C R) (hc : 0 ≤ c ∧ c < C * R) : pp C R c 0 0 = c := by
  have q := xy hG hc
  rw [(pp_0 hG hc).1, Int.add_zero, Int.emod_eq_of_lt q.1.1 q.1.2]; exact q.2.2
theorem T8_pp (hG : Geo C R) (hc : 0 ≤ c ∧ c < C * R) : T8 C R c 0 = pp C R c 0 1 ∧ T8 C R c 1 = pp C R c 1 1 ∧ T8 C R c 2 = pp C R c 1 0 ∧ T8 C R c 3 = pp C R c 1 (C - 1) ∧ T8 C R c 4 = pp C R c 0 (C - 1) ∧ T8 C R c 5 = pp C R c (R - 1) (C - 1) ∧ T8 C R c 6 = pp C R c (R - 1) 0 ∧ T8 C R c 7 = pp C R c (R - 1) 1 := by
  have q := xy hG hc
  obtain ⟨g1, g2, g3, g4⟩ := id hG
  have p0 := pp_0 hG hc
  have a0 : alg C R c 0 1 = pp C R c 0 1 := by rw [alg0, p0.1]
  have a1 : alg C R c 1 1 = pp C R c 1 0 := by rw [alg1, p0.2]
  have a2 : alg C R c 2 1 = pp C R c 0 (C - 1) := by rw [alg2, p0.1, Int.one_mul]
  have a3 : alg C R c 3 1 = pp C R c (R - 1) 0 := by rw [alg3, p0.2, Int.one_mul]
  refine ⟨a0, alg_sid hG hc, a1, ?_, a2, ?_, a3, ?_⟩
  · show alg C R (alg C R c 1 1) 2 1 = _
    rw [alg1, alg2, (dv q.1).1, (dv q.1).2, Int.one_mul]; rfl
  · show alg C R (alg C R c 2 1) 3 1 = _
    have m := md (C := C) (k := c % C + 1 * (C - 1)) (by omega)
    rw [alg2, alg3, (dv m).1, (dv m).2, Int.one_mul, Int.one_mul]; rfl
  · show alg C R (alg C R c 3 1) 0 1 = _
    rw [alg3, alg0, (dv q.1).1, (dv q.1).2, Int.one_mul]; rfl
theorem T9_pp (hG : Geo C R) (hc : 0 ≤ c ∧ c < C * R) : T9 C R c 0 = pp C R c (R - 1) (C - 1) ∧ T9 C R c 1 = pp C R c (R - 1) 0 ∧ T9 C R c 2 = pp C R c (R - 1) 1 ∧ T9 C R c 3 = pp C R c 0 (C - 1) ∧ T9 C R c 4 = pp C R c 0 0 ∧ T9 C R c 5 = pp C R c 0 1 ∧ T9 C R c 6 = pp C R c 1 (C - 1) ∧ T9 C R c 7 = pp C R c 1 0 ∧ T9 C R c 8 = pp C R c 1 1 := by
  have key : ∀ j : Nat, T9 C R c j = pp C R c ((j / 3 : Nat) + R - 1) ((j % 3 : Nat) + C - 1) := fun j => alg_sid hG hc
  have r0 : ((0 : Nat) : Int) + R - 1 = R - 1 := by omega
  have r1 : ((1 : Nat) : Int) + R - 1 = 0 + R := by omega
  have r2 : ((2 : Nat) : Int) + R - 1 = 1 + R := by omega
  have c0 : ((0 : Nat) : Int) + C - 1 = C - 1 := by omega
  have c1 : ((1 : Nat) : Int) + C - 1 = 0 + C := by omega
  have c2 : ((2 : Nat) : Int) + C - 1 = 1 + C := by omega
  refine ⟨?_, ?_, ?_, ?_, ?_, ?_, ?_, ?_, ?_⟩
  · rw [key, show 0 / 3 = 0 from rfl, show 0 % 3 = 0 from rfl, r0, c0]
  · rw [key, show 1 / 3 = 0 from rfl, show 1 % 3 = 1 from rfl, r0, c1, pp_b]
  · rw [key, show 2 / 3 = 0 from rfl, show 2 % 3 = 2 from rfl, r0, c2, pp_b]
  · rw [key, show 3 / 3 = 1 from rfl, show 3 % 3 = 0 from rfl, r1, c0, pp_a]
  · rw [key, show 4 / 3 = 1 from rfl, show 4 % 3 = 1 from rfl, r1, c1, pp_a, pp_b]
  · rw [key, show 5 / 3 = 1 from rfl, show 5 % 3 = 2 from rfl, r1, c2, pp_a, pp_b]
  · rw [key, show 6 / 3 = 2 from rfl, show 6 % 3 = 0 from rfl, r2, c0, pp_a]
  · rw [key, show 7 / 3 = 2 from rfl, show 7 % 3 = 1 from rfl, r2, c1, pp_a, pp_b]
  · rw [key, show 8 / 3 = 2 from rfl, show 8 % 3 = 2 from rfl, r2, c2, pp_a, pp_b]
theorem nb89 (hG : Geo C R) : nbs C R (T8 C R) (T9 C R) 8 9 := by
  intro c a b j hj
  obtain ⟨p0, p1, p2, p3, p4, p5, p6, p7⟩ := T8_pp hG ⟨a, b⟩
  obtain ⟨q0, q1, q2, q3, q4, q5, q6, q7, q8⟩ := T9_pp hG ⟨a, b⟩
  left
  match j, hj with
  | 0, _ => exact ⟨5, by decide, by rw [p0, q5]⟩
  | 1, _ => exact ⟨8, by decide, by rw [p1, q8]⟩
  | 2, _ => exact ⟨7, by decide, by rw [p2, q7]⟩
  | 3, _ => exact ⟨6, by decide, by rw [p3, q6]⟩
  | 4, _ => exact ⟨3, by decide, by rw [p4, q3]⟩
  | 5, _ => exact ⟨0, by decide, by rw [p5, q0]⟩
  | 6, _ => exact ⟨1, by decide, by rw [p6, q1]⟩
  | 7, _ => exact ⟨2, by decide, by rw [p7, q2]⟩
  | j + 8, h => omega
theorem nb98 (hG : Geo C R) : nbs C R (T9 C R) (T8 C R) 9 8 := by
  intro c a b j hj
  obtain ⟨p0, p1, p2, p3, p4, p5, p6, p7⟩ := T8_pp hG ⟨a, b⟩
  obtain ⟨q0, q1, q2, q3, q4, q5, q6, q7, q8⟩ := T9_pp hG ⟨a, b⟩
  match j, hj with
  | 0, _ => exact Or.inl ⟨5, by decide, by rw [p5, q0]⟩
  | 1, _ => exact Or.inl ⟨6, by decide, by rw [p6, q1]⟩
  | 2, _ => exact Or.inl ⟨7, by decide, by rw [p7, q2]⟩
  | 3, _ => exact Or.inl ⟨4, by decide, by rw [p4, q3]⟩
  | 4, _ => exact Or.inr (q4.trans (pp_00 hG ⟨a, b⟩))
  | 5, _ => exact Or.inl ⟨0, by decide, by rw [p0, q5]⟩
  | 6, _ => exact Or.inl ⟨3, by decide, by rw [p3, q6]⟩
  | 7, _ => exact Or.inl ⟨2, by decide, by rw [p2, q7]⟩
  | 8, _ => exact Or.inl ⟨1, by decide, by rw [p1, q8]⟩
  | j + 9, h => omega
theorem joi_89 (hG : Geo C R) (k : Nat) (hk : k ≤ (C * R).toNat) : joi P (T8 C R) 8 k = joi P (T9 C R) 9 k := joi_nb hG (fun d hd j => T8_in hG hd j) (fun d hd j => T9_in hG hd j) (nb89 hG) (nb98 hG) k hk
end RE
