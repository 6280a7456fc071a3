def rnE (P : Int → Prop) (b : Int → Int) (L p e : Int) : Prop := p ≤ e ∧ (∀ i : Int, p ≤ i → i < e → i < L ∧ P (b i)) ∧ ¬ (e < L ∧ P (b e))
def pkw (f : Int → Int) : Nat → Int
  | 0 => 0
  | n + 1 => pkw f n * 256 + f n
def nv (f : Int → Int) : Nat → Int
  | 0 => 0
  | n + 1 => 10 * nv f n + f n - 48
def WP : List Int := [0x73697a65, 0x73616e64, 0x68656170, 0x6772617373, 0x77696e64, 0x686f70, 0x736861646f77, 0x736c6f7065, 0x737469636b, 0x64726177, 0x65617374, 0x736f757468, 0x77657374, 0x6e6f727468, 0x6279]
def wnr' (r w : Int) : Prop := (-1 ≤ r ∧ r ≤ 14) ∧ ∀ k : Nat, k < 15 → (r = k ↔ w = WP.getD k 0)
def TokB (b : Int → Int) (L q k v w e : Int) : Prop := (cLe (b q) ∧ rnE cLe b L q e ∧ k = (if 8 < e - q then 4 else 1) ∧ (e - q ≤ 8 → w = pkw (fun j => b (q + j)) (e - q).toNat)) ∨ (cDi (b q) ∧ rnE cDi b L q e ∧ (k = 4 ∨ k = 2) ∧ (k = 2 ↔ ¬ (4 < e - q ∨ (e < L ∧ cLe (b e)))) ∧ (k = 2 → v = nv (fun j => b (q + j)) (e - q).toNat)) ∨ (¬ cLe (b q) ∧ ¬ cDi (b q) ∧ e = q + 1 ∧ k = (if b q = 59 then 3 else 4))
def Tok (b : Int → Int) (L p q k v w e : Int) : Prop := rnE cBl b L p q ∧ ((L ≤ q ∧ k = 0 ∧ e = q) ∨ (q < L ∧ TokB b L q k v w e))
/-- places in the text of the words: which word, how many letters behind its beginning -/
def kj : Nat → Nat × Nat
  | 0 => (0, 0)
  | i + 1 => if ztI.getD i 0 = 32 then ((kj i).1 + 1, 0) else ((kj i).1, (kj i).2 + 1)
def PMt (b : Int → Int) (q n : Int) (i : Nat) : Prop := ∀ t : Nat, t < (kj i).2 → (t : Int) < n ∧ b (q + t) = ztI.getD (i - (kj i).2 + t) 0
section SC
variable {g g' : zG} {o o' : Bool} {M M' N : zM} {b b' : Int → Int} {L p q k v w e p' q' k' v' w' e' x : Int} {P : Int → Prop} {f h : Int → Int}
theorem rnE_u (h1 : rnE P b L p e) (h2 : rnE P b L p e') : e = e' := by
  rcases Int.lt_trichotomy e e' with z | z | z
  · exact absurd (h2.2.1 e h1.1 z) h1.2.2
  · exact z
  · exact absurd (h1.2.1 e' h2.1 z) h2.2.2
theorem rnE_le (h : rnE P b L p e) (hp : p ≤ L) : e ≤ L := by
  by_cases z : e = p
  · omega
  · have := (h.2.1 (e - 1) (by have := h.1; omega) (by omega)).1; omega
theorem rnE_lt (h : rnE P b L p e) (hp : p < L) (hP : P (b p)) : p < e := by
  have := h.1
  by_cases z : e = p
  · rw [z] at h; exact absurd ⟨hp, hP⟩ h.2.2
  · omega
theorem TokB_nx (h : TokB b L q k v w e) (hq : q < L) : q < e ∧ e ≤ L ∧ 1 ≤ k ∧ k ≤ 4 := by
  rcases h with ⟨a1, a2, a3, a4⟩ | ⟨a1, a2, a3, a4, a5⟩ | ⟨a1, a2, a3, a4⟩
  · exact ⟨rnE_lt a2 hq a1, rnE_le a2 (by omega), by rw [a3]; split <;> omega, by rw [a3]; split <;> omega⟩
  · exact ⟨rnE_lt a2 hq a1, rnE_le a2 (by omega), by omega, by omega⟩
  · exact ⟨by omega, by omega, by rw [a4]; split <;> omega, by rw [a4]; split <;> omega⟩
theorem Tok_u (h1 : Tok b L p q k v w e) (h2 : Tok b L p q' k' v' w' e') : q = q' ∧ k = k' ∧ e = e' ∧ (k = 1 → w = w') ∧ (k = 2 → v = v') := by
  obtain ⟨a, c⟩ := h1
  obtain ⟨a', c'⟩ := h2
  have eq := rnE_u a a'
  subst eq
  rcases c with ⟨c1, c2, c3⟩ | ⟨c1, c2⟩
  · rcases c' with ⟨d1, d2, d3⟩ | ⟨d1, d2⟩
    · exact ⟨rfl, by omega, by omega, fun z => by omega, fun z => by omega⟩
    · omega
  · rcases c' with ⟨d1, d2, d3⟩ | ⟨d1, d2⟩
    · omega
    · have ex : ∀ c : Int, cLe c → cDi c → False := fun c z z' => by have := z.1; have := z'.2; omega
      rcases c2 with ⟨a1, a2, a3, a4⟩ | ⟨a1, a2, a3, a4, a5⟩ | ⟨a1, a2, a3, a4⟩
      · rcases d2 with ⟨b1, b2, b3, b4⟩ | ⟨b1, b2, b3, b4, b5⟩ | ⟨b1, b2, b3, b4⟩
        · have ee := rnE_u a2 b2
          subst ee
          refine ⟨rfl, by rw [a3, b3], rfl, fun z => ?_, fun z => ?_⟩
          · rw [a3] at z
            have : e - q ≤ 8 := by
              by_cases y : 8 < e - q
              · rw [if_pos y] at z; omega
              · omega
            rw [a4 this, b4 this]
          · rw [a3] at z
            by_cases y : 8 < e - q
            · rw [if_pos y] at z; omega
            · rw [if_neg y] at z; omega
        · exact absurd (ex _ a1 b1) id
        · exact absurd a1 b1
      · rcases d2 with ⟨b1, b2, b3, b4⟩ | ⟨b1, b2, b3, b4, b5⟩ | ⟨b1, b2, b3, b4⟩
        · exact absurd (ex _ b1 a1) id
        · have ee := rnE_u a2 b2
          subst ee
          have kk : k = k' := by
            by_cases y : k = 2
            · have := b4.mpr (a4.mp y); omega
            · have : k' ≠ 2 := fun z => y (a4.mpr (b4.mp z))
              omega
          exact ⟨rfl, kk, rfl, fun z => by omega, fun z => by rw [a5 z, b5 (by omega)]⟩
        · exact absurd a1 b2
      · rcases d2 with ⟨b1, b2, b3, b4⟩ | ⟨b1, b2, b3, b4, b5⟩ | ⟨b1, b2, b3, b4⟩
        · exact absurd b1 a1
        · exact absurd b1 a2
        · refine ⟨rfl, by rw [a4, b4], by omega, fun z => ?_, fun z => ?_⟩
          · rw [a4] at z
            by_cases y : b q = 59
            · rw [if_pos y] at z; omega
            · rw [if_neg y] at z; omega
          · rw [a4] at z
            by_cases y : b q = 59
            · rw [if_pos y] at z; omega
            · rw [if_neg y] at z; omega
theorem pkw_in (n : Nat) (hf : ∀ t : Nat, t < n → cLe (f t)) : 0 ≤ pkw f n ∧ 2 * pkw f n + 1 ≤ ((256 ^ n : Nat) : Int) := by
  induction n with
  | zero => exact ⟨Int.le_refl _, by show (2 : Int) * 0 + 1 ≤ 1; decide⟩
  | succ n ih =>
    obtain ⟨i1, i2⟩ := ih (fun t ht => hf t (by omega))
    have c := hf n (by omega)
    have c1 := c.1
    have c2 := c.2
    have e : ((256 ^ (n + 1) : Nat) : Int) = ((256 ^ n : Nat) : Int) * 256 := by rw [Nat.pow_succ]; rfl
    show 0 ≤ pkw f n * 256 + f n ∧ 2 * (pkw f n * 256 + f n) + 1 ≤ _
    rw [e]
    omega
theorem pkw_inj (n m : Nat) (hf : ∀ t : Nat, t < n → cLe (f t)) (hh : ∀ t : Nat, t < m → cLe (h t)) (e : pkw f n = pkw h m) : n = m ∧ ∀ t : Nat, t < n → f t = h t := by
  induction n generalizing m with
  | zero =>
    cases m with
    | zero => exact ⟨rfl, fun t ht => by omega⟩
    | succ m =>
      have i := pkw_in m (fun t ht => hh t (by omega))
      have c := (hh m (by omega)).1
      have : (0 : Int) = pkw h m * 256 + h m := e
      omega
  | succ n ih =>
    have i := pkw_in n (fun t ht => hf t (by omega))
    have c := hf n (by omega)
    cases m with
    | zero =>
      have : pkw f n * 256 + f n = (0 : Int) := e
      have := c.1
      omega
    | succ m =>
      have i' := pkw_in m (fun t ht => hh t (by omega))
      have c' := hh m (by omega)
      have e2 : pkw f n * 256 + f n = pkw h m * 256 + h m := e
      have c1 := c.1
      have c2 := c.2
      have c3 := c'.1
      have c4 := c'.2
      obtain ⟨a, d⟩ := ih m (fun t ht => hf t (by omega)) (fun t ht => hh t (by omega)) (by omega)
      refine ⟨by omega, fun t ht => ?_⟩
      by_cases z : t = n
      · subst z; subst a; omega
      · exact d t (by omega)
theorem pkw_cg (n : Nat) (e : ∀ t : Nat, t < n → f t = h t) : pkw f n = pkw h n := by
  induction n with
  | zero => rfl
  | succ n ih => show pkw f n * 256 + f n = pkw h n * 256 + h n; rw [ih (fun t ht => e t (by omega)), e n (by omega)]
theorem nv_in (n : Nat) (hf : ∀ t : Nat, t < n → cDi (f t)) : 0 ≤ nv f n ∧ nv f n + 1 ≤ ((10 ^ n : Nat) : Int) := by
  induction n with
  | zero => exact ⟨Int.le_refl _, by show (0 : Int) + 1 ≤ 1; decide⟩
  | succ n ih =>
    obtain ⟨i1, i2⟩ := ih (fun t ht => hf t (by omega))
    have c := hf n (by omega)
    have c1 := c.1
    have c2 := c.2
    have e : ((10 ^ (n + 1) : Nat) : Int) = ((10 ^ n : Nat) : Int) * 10 := by rw [Nat.pow_succ]; rfl
    show 0 ≤ 10 * nv f n + f n - 48 ∧ 10 * nv f n + f n - 48 + 1 ≤ _
    rw [e]
    omega
theorem kj_le (i : Nat) : (kj i).2 ≤ i := by
  induction i with
  | zero => exact Nat.le_refl 0
  | succ i ih => unfold kj; split <;> (show _ ≤ i + 1; omega)
theorem kj_b {i : Nat} (h : ztI.getD i 0 = 32) : kj (i + 1) = ((kj i).1 + 1, 0) := by show (if _ then _ else _) = _; rw [if_pos h]
theorem kj_l {i : Nat} (h : ztI.getD i 0 ≠ 32) : kj (i + 1) = ((kj i).1, (kj i).2 + 1) := by show (if _ then _ else _) = _; rw [if_neg h]
theorem kj_t : ∀ i, i < 79 → ztI.getD i 0 = 32 → pkw (fun t => ztI.getD (i - (kj i).2 + t.toNat) 0) (kj i).2 = WP.getD (kj i).1 0 ∧ (kj i).1 < 15 ∧ (kj i).2 ≤ 8 ∧ ∀ t, t < (kj i).2 → 97 ≤ ztI.getD (i - (kj i).2 + t) 0 ∧ ztI.getD (i - (kj i).2 + t) 0 ≤ 122 := by decide +kernel
def ibl : List Nat := [4, 9, 14, 20, 25, 29, 36, 42, 48, 53, 58, 64, 69, 75, 78]
theorem ibl_t : ∀ k, k < 15 → ibl.getD k 0 < 79 ∧ ztI.getD (ibl.getD k 0) 0 = 32 ∧ (kj (ibl.getD k 0)).1 = k := by decide +kernel
theorem WP_d : ∀ k, k < 15 → ∀ k', k' < 15 → WP.getD k 0 = WP.getD k' 0 → k = k' := by decide +kernel
theorem kj_t79 : ∀ i, i < 79 → (kj i).1 < 15 := by decide +kernel
theorem c_wordNumber (hb : ∀ i : Int, 0 ≤ i → i < L → M 3 i = b i ∧ 0 ≤ b i ∧ b i ≤ 255) (hL : L ≤ 900) (hq : 0 ≤ q) (he : M 2 5 = e) (hqe : q < e) (heL : e ≤ L) : zKi g (z1 o) mX8_wordNumber [zA g 2, zI q] M (fun r N => N = M ∧ ((∃ i : Nat, i < 79 ∧ ztI.getD i 0 = 32 ∧ ((kj i).2 : Int) = e - q ∧ PMt b q (e - q) i ∧ r = ((kj i).1 : Nat)) ∨ (r = -1 ∧ ∀ i : Nat, i < 79 → ztI.getD i 0 = 32 → ¬ (((kj i).2 : Int) = e - q ∧ PMt b q (e - q) i)))) := by
  refine zki_of rfl (Nat.le_of_ble_eq_true rfl) (SX8_wordNumber_0 ?_)
  suffices hs : ∀ (j i : Nat) (a : Int), i + j = 79 → ((PMt b q (e - q) i ∧ a = ((kj i).2 : Nat)) ∨ (¬ PMt b q (e - q) i ∧ a = -1)) → (∀ i' : Nat, i' < i → ztI.getD i' 0 = 32 → ¬ (((kj i').2 : Int) = e - q ∧ PMt b q (e - q) i')) → zT g (z1 o) mX8_wordNumber (zQi (z1 o) (fun r N => N = M ∧ ((∃ i : Nat, i < 79 ∧ ztI.getD i 0 = 32 ∧ ((kj i).2 : Int) = e - q ∧ PMt b q (e - q) i ∧ r = ((kj i).1 : Nat)) ∨ (r = -1 ∧ ∀ i : Nat, i < 79 → ztI.getD i 0 = 32 → ¬ (((kj i).2 : Int) = e - q ∧ PMt b q (e - q) i))))) 7 [(0, zA g 2), (1, zI q), (2, zI ((kj i).1 : Nat)), (3, zI a), (4, zI i)] [] M from hs 79 0 0 rfl (Or.inl ⟨fun t ht => absurd ht (Nat.not_lt_zero t), rfl⟩) (fun i' h => by omega)
  intro j
  induction j with
  | zero =>
    intro i a hi ha hn
    exact SX8_wordNumber_7 ⟨by omega, fun _ => ⟨rfl, Or.inr ⟨rfl, fun i' h1 => hn i' (by omega)⟩⟩, fun h => by omega⟩
  | succ j ih =>
    intro i a hi ha hn
    have hz := (ztI_b i (by omega)).2
    have hle := kj_le i
    have ab : -1 ≤ a ∧ a ≤ 79 := by rcases ha with ⟨-, z⟩ | ⟨-, z⟩ <;> omega
    refine SX8_wordNumber_7 ⟨by omega, fun h => by omega, fun _ => ⟨by omega, ?_⟩⟩
    rw [Int.toNat_natCast, he]
    refine ⟨by omega, fun hbl => ⟨by omega, by omega, fun z => ?_, fun z => ?_⟩, fun hle' => ?_⟩
    · have nx := ih (i + 1) 0 (by omega)
      rw [kj_b hbl] at nx
      refine nx (Or.inl ⟨fun t ht => ?_, rfl⟩) (fun i' h1 h2 => ?_)
      · rw [kj_b hbl] at ht; exact absurd ht (Nat.not_lt_zero t)
      · by_cases y : i' = i
        · rw [y]; intro w
          rcases ha with ⟨c1, c2⟩ | ⟨c1, c2⟩
          · exact z (by rw [c2]; exact w.1)
          · exact c1 w.2
        · exact hn i' (by omega) h2
    · rcases ha with ⟨c1, c2⟩ | ⟨c1, c2⟩
      · exact ⟨rfl, Or.inl ⟨i, by omega, hbl, by omega, c1, rfl⟩⟩
      · omega
    · have nx := fun a => ih (i + 1) a (by omega)
      rw [kj_l hle'] at nx
      have no : ¬ PMt b q (e - q) (i + 1) → zT g (z1 o) mX8_wordNumber (zQi (z1 o) (fun r N => N = M ∧ ((∃ i : Nat, i < 79 ∧ ztI.getD i 0 = 32 ∧ ((kj i).2 : Int) = e - q ∧ PMt b q (e - q) i ∧ r = ((kj i).1 : Nat)) ∨ (r = -1 ∧ ∀ i : Nat, i < 79 → ztI.getD i 0 = 32 → ¬ (((kj i).2 : Int) = e - q ∧ PMt b q (e - q) i))))) 7 [(0, zA g 2), (1, zI q), (2, zI ((kj i).1 : Nat)), (3, zI (-1)), (4, zI ((i : Int) + 1))] [] M := fun z => nx (-1) (Or.inr ⟨z, rfl⟩) (fun i' h1 h2 => by
        by_cases y : i' = i
        · rw [y] at h2; exact absurd h2 hle'
        · exact hn i' (by omega) h2)
      have pm1 : PMt b q (e - q) (i + 1) → PMt b q (e - q) i ∧ ((kj i).2 : Int) < e - q ∧ b (q + (kj i).2) = ztI.getD i 0 := fun z => by
        unfold PMt at z ⊢
        rw [kj_l hle'] at z
        refine ⟨fun t ht => ?_, ?_, ?_⟩
        · have := z t (by show t < (kj i).2 + 1; omega)
          rw [show i + 1 - ((kj i).2 + 1) + t = i - (kj i).2 + t by omega] at this
          exact this
        · exact (z (kj i).2 (by show _ < (kj i).2 + 1; omega)).1
        · have := (z (kj i).2 (by show _ < (kj i).2 + 1; omega)).2
          rw [show i + 1 - ((kj i).2 + 1) + (kj i).2 = i by omega] at this
          exact this
      have pm2 : PMt b q (e - q) i → ((kj i).2 : Int) < e - q → b (q + (kj i).2) = ztI.getD i 0 → PMt b q (e - q) (i + 1) := fun z1 z2 z3 => by
        unfold PMt at z1 ⊢
        rw [kj_l hle']
        intro t ht
        have ht : t < (kj i).2 + 1 := ht
        show _ ∧ b (q + t) = ztI.getD (i + 1 - ((kj i).2 + 1) + t) 0
        rw [show i + 1 - ((kj i).2 + 1) + t = i - (kj i).2 + t by omega]
        by_cases y : t = (kj i).2
        · rw [y, show i - (kj i).2 + (kj i).2 = i by omega]; exact ⟨z2, z3⟩
        · exact z1 t (by omega)
      rcases ha with ⟨c1, c2⟩ | ⟨c1, c2⟩
      · rw [c2]
        refine ⟨by omega, fun z => by omega, fun _ => ⟨by omega, by omega, fun z => no (fun w => by have := (pm1 w).2.1; omega), fun z => ?_⟩⟩
        have hv := hb (q + (kj i).2) (by omega) (by omega)
        rw [hv.1]
        refine ⟨by omega, by omega, fun y => no (fun w => y (pm1 w).2.2), fun y => ?_⟩
        have := nx (((kj i).2 : Int) + 1) (Or.inl ⟨pm2 c1 (by omega) y, by show ((kj i).2 : Int) + 1 = (((kj i).2 + 1 : Nat) : Int); omega⟩) (fun i' h1 h2 => by
          by_cases y : i' = i
          · rw [y] at h2; exact absurd h2 hle'
          · exact hn i' (by omega) h2)
        exact this
      · rw [c2]
        exact ⟨by decide, fun _ => no (fun w => c1 (pm1 w).1), fun z => absurd rfl z⟩
theorem wnr_of' {r : Int} {n : Nat} (hn : ∀ t : Nat, t < n → cLe (b (q + t))) (h : (∃ i : Nat, i < 79 ∧ ztI.getD i 0 = 32 ∧ ((kj i).2 : Int) = n ∧ PMt b q n i ∧ r = ((kj i).1 : Nat)) ∨ (r = -1 ∧ ∀ i : Nat, i < 79 → ztI.getD i 0 = 32 → ¬ (((kj i).2 : Int) = n ∧ PMt b q n i))) : wnr' r (pkw (fun j => b (q + j)) n) := by
  have mt : ∀ i : Nat, i < 79 → ztI.getD i 0 = 32 → ((((kj i).2 : Int) = n ∧ PMt b q n i) ↔ pkw (fun j => b (q + j)) n = WP.getD (kj i).1 0) := fun i h1 h2 => by
    obtain ⟨t1, t2, t3, t4⟩ := kj_t i h1 h2
    constructor
    · intro ⟨z1, z2⟩
      have e : n = (kj i).2 := by omega
      rw [← t1, ← e]
      refine pkw_cg n (fun t ht => ?_)
      show b (q + t) = ztI.getD (i - n + Int.toNat (t : Int)) 0
      rw [Int.toNat_natCast, e]; exact (z2 t (by omega)).2
    · intro z
      rw [← t1] at z
      obtain ⟨z1, z2⟩ := pkw_inj n (kj i).2 hn (fun t ht => by show cLe (ztI.getD (i - (kj i).2 + Int.toNat (t : Int)) 0); rw [Int.toNat_natCast]; exact t4 t ht) z
      refine ⟨by omega, fun t ht => ⟨by omega, ?_⟩⟩
      have := z2 t (by omega)
      simp only [Int.toNat_natCast] at this
      exact this
  rcases h with ⟨i, h1, h2, h3, h4, h5⟩ | ⟨h1, h2⟩
  · obtain ⟨t1, t2, t3, t4⟩ := kj_t i h1 h2
    have hw := (mt i h1 h2).mp ⟨h3, h4⟩
    refine ⟨by omega, fun k hk => ⟨fun z => ?_, fun z => ?_⟩⟩
    · rw [hw, show (kj i).1 = k by omega]
    · have := WP_d (kj i).1 t2 k hk (hw.symm.trans z)
      omega
  · refine ⟨by omega, fun k hk => ⟨fun z => by omega, fun z => ?_⟩⟩
    obtain ⟨i1, i2, i3⟩ := ibl_t k hk
    exact absurd ((mt _ i1 i2).mpr (by rw [i3]; exact z)) (h2 _ i1 i2)
/-- one token's rows alone are written -/
def scF (M N : zM) (x : Int) : Prop := (∀ c : Nat, c ≠ 2 → c ≠ 4 → c ≠ 6 → N c = M c) ∧ (∀ i : Int, i ≠ 5 → N 2 i = M 2 i) ∧ ∀ i : Int, i ≠ x → N 4 i = M 4 i ∧ N 6 i = M 6 i
/-- what a token's rows hold -/
def scP (b : Int → Int) (L q x : Int) (N : zM) : Prop := ∃ v w : Int, TokB b L q (N 4 x) v w (N 2 5) ∧ (N 4 x = 1 → wnr' (N 6 x) w) ∧ (N 4 x = 2 → N 6 x = v ∧ 0 ≤ v ∧ v ≤ 9999)
theorem c_scanWord (hb : ∀ i : Int, 0 ≤ i → i < L → M 3 i = b i ∧ 0 ≤ b i ∧ b i ≤ 255) (hL : L ≤ 900) (h1 : M 2 1 = L) (h5 : M 2 5 = q) (hq : 0 ≤ q ∧ q < L) (hx : 0 ≤ x ∧ x < 901) (hc : cLe (b q)) : zKv g (z1 o) mX8_scanWord [zA g 2, zI x] M (fun N => scP b L q x N ∧ scF M N x) := by
  obtain ⟨s, hs⟩ := znn hq.1
  obtain ⟨l, hl⟩ := znn (show 0 ≤ L by omega)
  refine zkv_of rfl (Nat.le_of_ble_eq_true rfl) (SX8_scanWord_0 ?_)
  rw [h5]
  suffices hs' : ∀ (j e : Nat) (P : zM), e + j = l → s ≤ e → (∀ c : Nat, c ≠ 2 → P c = M c) → (∀ i : Int, i ≠ 5 → P 2 i = M 2 i) → P 2 5 = e → (∀ i : Int, q ≤ i → i < e → i < L ∧ cLe (b i)) → zT g (z1 o) mX8_scanWord (zQv (z1 o) (fun N => scP b L q x N ∧ scF M N x)) 5 [(0, zA g 2), (1, zI x), (2, zI q)] [] P from hs' (l - s) s M (by omega) (Nat.le_refl s) (fun _ _ => rfl) (fun _ _ => rfl) (by omega) (fun i a c => by omega)
  have fin : ∀ (e : Nat) (P : zM), e ≤ l → s ≤ e → (∀ c : Nat, c ≠ 2 → P c = M c) → (∀ i : Int, i ≠ 5 → P 2 i = M 2 i) → P 2 5 = e → rnE cLe b L q e → zT g (z1 o) mX8_scanWord (zQv (z1 o) (fun N => scP b L q x N ∧ scF M N x)) 44 [(0, zA g 2), (1, zI x), (2, zI q)] [] P := by
    intro e P he hse hP hP2 hP5 hr
    have hlt := rnE_lt hr hq.2 hc
    have wn : ∀ kd : Int, zKi g (z1 o) mX8_wordNumber [zA g 2, zI q] (zu P 4 x kd) (fun r N => N = zu P 4 x kd ∧ ((∃ i : Nat, i < 79 ∧ ztI.getD i 0 = 32 ∧ ((kj i).2 : Int) = e - q ∧ PMt b q (e - q) i ∧ r = ((kj i).1 : Nat)) ∨ (r = -1 ∧ ∀ i : Nat, i < 79 → ztI.getD i 0 = 32 → ¬ (((kj i).2 : Int) = e - q ∧ PMt b q (e - q) i)))) := fun kd => c_wordNumber (fun i a c => by rw [zu_other (by decide), hP 3 (by decide)]; exact hb i a c) hL hq.1 (by rw [zu_other (by decide)]; exact hP5) (by omega) (by omega)
    have fr : ∀ (kd r : Int), scF M (zu (zu P 4 x kd) 6 x r) x := fun kd r => by
      refine ⟨fun c c2 c4 c6 => by rw [zu_other c6, zu_other c4, hP c c2], fun i hi => by rw [zu_other (by decide), zu_other (by decide), hP2 i hi], fun i hi => ?_⟩
      rw [zu_other (by decide), zu_row, if_neg hi, zu_row, if_neg hi, zu_other (by decide), hP 4 (by decide), hP 6 (by decide)]; exact ⟨rfl, rfl⟩
    refine SX8_scanWord_44 ⟨by omega, fun z => ⟨hx, _, wn 1, fun r M5 hr' => ?_⟩, fun z => ⟨hx, _, wn 4, fun r M5 hr' => ?_⟩⟩
    · rw [hr'.1]
      refine ⟨⟨0, pkw (fun j => b (q + j)) (e - q).toNat, Or.inl ⟨hc, ?_, ?_, fun _ => ?_⟩, fun _ => ?_, fun w => ?_⟩, fr 1 r⟩
      · rw [zu_other (by decide), zu_other (by decide), hP5]; exact hr
      · rw [zu_other (by decide), zu_at, zu_other (by decide), zu_other (by decide), hP5, if_neg (by omega)]
      · rw [zu_other (by decide), zu_other (by decide), hP5]
      · rw [zu_at]
        refine wnr_of' (n := ((e : Int) - q).toNat) (fun t ht => (hr.2.1 (q + t) (by omega) (by omega)).2) ?_
        rw [Int.toNat_of_nonneg (by omega)]; exact hr'.2
      · rw [zu_other (by decide), zu_at] at w; exact absurd w (by decide)
    · rw [hr'.1]
      refine ⟨⟨0, 0, Or.inl ⟨hc, ?_, ?_, fun y => ?_⟩, fun w => ?_, fun w => ?_⟩, fr 4 r⟩
      · rw [zu_other (by decide), zu_other (by decide), hP5]; exact hr
      · rw [zu_other (by decide), zu_at, zu_other (by decide), zu_other (by decide), hP5, if_pos (by omega)]
      · rw [zu_other (by decide), zu_other (by decide), hP5] at y; omega
      · rw [zu_other (by decide), zu_at] at w; exact absurd w (by decide)
      · rw [zu_other (by decide), zu_at] at w; exact absurd w (by decide)
  intro j
  induction j with
  | zero =>
    intro e P he hse hP hP2 hP5 hr
    have p1 : P 2 1 = L := by rw [hP2 1 (by decide)]; exact h1
    exact SX8_scanWord_5 ⟨by omega, by omega, fun _ => fin e P (by omega) hse hP hP2 hP5 ⟨by omega, hr, fun z => by omega⟩, fun z => by omega⟩
  | succ j ih =>
    intro e P he hse hP hP2 hP5 hr
    have p1 : P 2 1 = L := by rw [hP2 1 (by decide)]; exact h1
    have hv := hb e (by omega) (by omega)
    refine SX8_scanWord_5 ⟨by omega, by omega, fun z => by omega, fun _ => ?_⟩
    rw [hP5, hP 3 (by decide), hv.1]
    refine ⟨by omega, by omega, fun z => fin e P (by omega) hse hP hP2 hP5 ⟨by omega, hr, fun w => z w.2⟩, fun z => ih (e + 1) _ (by omega) (by omega) (fun c hc => by rw [zu_other hc, hP c hc]) (fun i hi => by rw [zu_row, if_neg hi, hP2 i hi]) (by rw [zu_at]; omega) (fun i a c => ?_)⟩
    by_cases y : i = e
    · rw [y]; exact ⟨by omega, z⟩
    · exact hr i a (by omega)
theorem c_scanNumber (hb : ∀ i : Int, 0 ≤ i → i < L → M 3 i = b i ∧ 0 ≤ b i ∧ b i ≤ 255) (hL : L ≤ 900) (h1 : M 2 1 = L) (h5 : M 2 5 = q) (hq : 0 ≤ q ∧ q < L) (hx : 0 ≤ x ∧ x < 901) (hc : cDi (b q)) : zKv g (z1 o) mX8_scanNumber [zA g 2, zI x] M (fun N => scP b L q x N ∧ scF M N x) := by
  obtain ⟨s, hs⟩ := znn hq.1
  obtain ⟨l, hl⟩ := znn (show 0 ≤ L by omega)
  refine zkv_of rfl (Nat.le_of_ble_eq_true rfl) (SX8_scanNumber_0 ?_)
  rw [h5]
  suffices hs' : ∀ (j e : Nat) (P : zM), e + j = l → s ≤ e → (∀ c : Nat, c ≠ 2 → P c = M c) → (∀ i : Int, i ≠ 5 → P 2 i = M 2 i) → P 2 5 = e → (∀ i : Int, q ≤ i → i < e → i < L ∧ cDi (b i)) → zT g (z1 o) mX8_scanNumber (zQv (z1 o) (fun N => scP b L q x N ∧ scF M N x)) 7 [(0, zA g 2), (1, zI x), (2, zI q), (3, zI (nv (fun j => b (q + j)) (min (e - s) 4)))] [] P by
    have := hs' (l - s) s M (by omega) (Nat.le_refl s) (fun _ _ => rfl) (fun _ _ => rfl) (by omega) (fun i a c => by omega)
    rw [Nat.sub_self] at this
    exact this
  have fin : ∀ (e : Nat) (P : zM), e ≤ l → s ≤ e → (∀ c : Nat, c ≠ 2 → P c = M c) → (∀ i : Int, i ≠ 5 → P 2 i = M 2 i) → P 2 5 = e → rnE cDi b L q e → zT g (z1 o) mX8_scanNumber (zQv (z1 o) (fun N => scP b L q x N ∧ scF M N x)) 74 [(0, zA g 2), (1, zI x), (2, zI q), (3, zI (nv (fun j => b (q + j)) (min (e - s) 4)))] [] P := by
    intro e P he hse hP hP2 hP5 hr
    have hlt := rnE_lt hr hq.2 hc
    have p1 : P 2 1 = L := by rw [hP2 1 (by decide)]; exact h1
    have fr : ∀ (kd r : Int), scF M (zu (zu P 4 x kd) 6 x r) x := fun kd r => by
      refine ⟨fun c c2 c4 c6 => by rw [zu_other c6, zu_other c4, hP c c2], fun i hi => by rw [zu_other (by decide), zu_other (by decide), hP2 i hi], fun i hi => ?_⟩
      rw [zu_other (by decide), zu_row, if_neg hi, zu_row, if_neg hi, zu_other (by decide), hP 4 (by decide), hP 6 (by decide)]; exact ⟨rfl, rfl⟩
    have bad : (4 < (e : Int) - q ∨ ((e : Int) < L ∧ cLe (b e))) → scP b L q x (zu (zu P 4 x 4) 6 x (nv (fun j => b (q + j)) (min (e - s) 4))) ∧ scF M (zu (zu P 4 x 4) 6 x (nv (fun j => b (q + j)) (min (e - s) 4))) x := fun z => by
      refine ⟨⟨0, 0, Or.inr (Or.inl ⟨hc, ?_, ?_, ?_, fun w => ?_⟩), fun w => ?_, fun w => ?_⟩, fr 4 _⟩
      · rw [zu_other (by decide), zu_other (by decide), hP5]; exact hr
      · rw [zu_other (by decide), zu_at]; exact Or.inl rfl
      · rw [zu_other (by decide), zu_at, zu_other (by decide), zu_other (by decide), hP5]; exact ⟨fun w => absurd w (by decide), fun w => absurd z w⟩
      · rw [zu_other (by decide), zu_at] at w; exact absurd w (by decide)
      · rw [zu_other (by decide), zu_at] at w; exact absurd w (by decide)
      · rw [zu_other (by decide), zu_at] at w; exact absurd w (by decide)
    have good : ¬ (4 < (e : Int) - q ∨ ((e : Int) < L ∧ cLe (b e))) → scP b L q x (zu (zu P 4 x 2) 6 x (nv (fun j => b (q + j)) (min (e - s) 4))) ∧ scF M (zu (zu P 4 x 2) 6 x (nv (fun j => b (q + j)) (min (e - s) 4))) x := fun z => by
      have em : min (e - s) 4 = ((e : Int) - q).toNat := by
        have : ¬ 4 < (e : Int) - q := fun y => z (Or.inl y)
        omega
      have ni := nv_in (f := fun j => b (q + j)) ((e : Int) - q).toNat (fun t ht => (hr.2.1 (q + t) (by omega) (by omega)).2)
      have p4 : ((10 ^ ((e : Int) - q).toNat : Nat) : Int) ≤ 10000 := by
        have : 10 ^ ((e : Int) - q).toNat ≤ 10 ^ 4 := Nat.pow_le_pow_right (by decide) (by have : ¬ 4 < (e : Int) - q := fun y => z (Or.inl y); omega)
        exact Int.ofNat_le.mpr this
      rw [em]
      refine ⟨⟨nv (fun j => b (q + j)) ((e : Int) - q).toNat, 0, Or.inr (Or.inl ⟨hc, ?_, ?_, ?_, fun w => ?_⟩), fun w => ?_, fun w => ?_⟩, fr 2 _⟩
      · rw [zu_other (by decide), zu_other (by decide), hP5]; exact hr
      · rw [zu_other (by decide), zu_at]; exact Or.inr rfl
      · rw [zu_other (by decide), zu_at, zu_other (by decide), zu_other (by decide), hP5]; exact ⟨fun _ => z, fun _ => rfl⟩
      · rw [zu_other (by decide), zu_other (by decide), hP5]
      · rw [zu_other (by decide), zu_at] at w; exact absurd w (by decide)
      · rw [zu_at]; exact ⟨rfl, ni.1, by omega⟩
    have c121 : ∀ f : Int, (f = 0 ∨ f = 1) → (f = 1 ↔ 4 < (e : Int) - q) → ¬ ((e : Int) < L ∧ cLe (b e)) → zT g (z1 o) mX8_scanNumber (zQv (z1 o) (fun N => scP b L q x N ∧ scF M N x)) 121 [(0, zA g 2), (1, zI x), (3, zI (nv (fun j => b (q + j)) (min (e - s) 4))), (4, zI f)] [] P := fun f h0 hf hn => by
      refine SX8_scanNumber_121 ⟨by omega, fun z => ⟨hx, fun N3 e3 => ?_⟩, fun z => ⟨hx, fun N6 e6 => ?_⟩⟩
      · rw [e3]; exact bad (Or.inl (hf.mp (by omega)))
      · rw [e6]; exact good (fun w => by rcases w with w | w; · have := hf.mpr w; omega
                                         · exact hn w)
    have hbe : (e : Int) < L → P 3 e = b e ∧ 0 ≤ b e ∧ b e ≤ 255 := fun z => by rw [hP 3 (by decide)]; exact hb e (by omega) z
    refine SX8_scanNumber_74 ⟨by omega, fun z => ⟨by omega, by omega, fun y => c121 0 (Or.inl rfl) (by omega) (by omega), fun y => ?_⟩, fun z => ⟨by omega, by omega, fun y => c121 1 (Or.inr rfl) (by omega) (by omega), fun y => ?_⟩⟩
    · have hv := hbe (by omega)
      rw [hP5, hv.1]
      refine ⟨by omega, by omega, fun u => c121 0 (Or.inl rfl) (by omega) (fun w => u w.2), fun u => ⟨hx, fun N e' => ?_⟩⟩
      rw [e']; exact bad (Or.inr ⟨by omega, u⟩)
    · have hv := hbe (by omega)
      rw [hP5, hv.1]
      refine ⟨by omega, by omega, fun u => c121 1 (Or.inr rfl) (by omega) (fun w => u w.2), fun u => ⟨hx, fun N e' => ?_⟩⟩
      rw [e']; exact bad (Or.inr ⟨by omega, u⟩)
  intro j
  induction j with
  | zero =>
    intro e P he hse hP hP2 hP5 hr
    have p1 : P 2 1 = L := by rw [hP2 1 (by decide)]; exact h1
    exact SX8_scanNumber_7 ⟨by omega, by omega, fun _ => fin e P (by omega) hse hP hP2 hP5 ⟨by omega, hr, fun z => by omega⟩, fun z => by omega⟩
  | succ j ih =>
    intro e P he hse hP hP2 hP5 hr
    have p1 : P 2 1 = L := by rw [hP2 1 (by decide)]; exact h1
    have hv := hb e (by omega) (by omega)
    refine SX8_scanNumber_7 ⟨by omega, by omega, fun z => by omega, fun _ => ?_⟩
    rw [hP5, hP 3 (by decide), hv.1]
    have nx := fun z => ih (e + 1) (zu P 2 5 ((e : Int) + 1)) (by omega) (by omega) (fun c hc => by rw [zu_other hc, hP c hc]) (fun i hi => by rw [zu_row, if_neg hi, hP2 i hi]) (by rw [zu_at]; omega) z
    have hr' : cDi (b e) → ∀ i : Int, q ≤ i → i < ((e + 1 : Nat) : Int) → i < L ∧ cDi (b i) := fun z i a c => by
      by_cases y : i = e
      · rw [y]; exact ⟨by omega, z⟩
      · exact hr i a (by omega)
    refine ⟨by omega, by omega, fun z => fin e P (by omega) hse hP hP2 hP5 ⟨by omega, hr, fun w => z w.2⟩, fun z => ⟨by omega, fun y => ?_, fun y => ?_⟩⟩
    · have := nx (hr' z)
      rw [show min (e + 1 - s) 4 = min (e - s) 4 by omega] at this
      exact this
    · have := nx (hr' z)
      have em : min (e + 1 - s) 4 = (e - s) + 1 := by omega
      have em2 : min (e - s) 4 = e - s := by omega
      rw [em] at this
      rw [em2]
      have ev : nv (fun j => b (q + j)) (e - s + 1) = nv (fun j => b (q + j)) (e - s) * 10 + b e - 48 := by
        show 10 * nv (fun j => b (q + j)) (e - s) + b (q + ((e - s : Nat) : Int)) - 48 = _
        rw [show q + ((e - s : Nat) : Int) = (e : Int) by omega]; omega
      rw [ev] at this
      exact this
theorem c_scanToken (hb : ∀ i : Int, 0 ≤ i → i < L → M 3 i = b i ∧ 0 ≤ b i ∧ b i ≤ 255) (hL : L ≤ 900) (h1 : M 2 1 = L) (h5 : M 2 5 = q) (hq : 0 ≤ q ∧ q < L) (hx : 0 ≤ x ∧ x < 901) : zKv g (z1 o) mX8_scanToken [zA g 2, zI x, zI (b q)] M (fun N => scP b L q x N ∧ scF M N x) := by
  have hv := hb q hq.1 hq.2
  have oth : ∀ kd : Int, ¬ cLe (b q) → ¬ cDi (b q) → (kd = 3 ∨ kd = 4) → kd = (if b q = 59 then 3 else 4) → scP b L q x (zu (zu M 4 x kd) 2 5 (zu M 4 x kd 2 5 + 1)) ∧ scF M (zu (zu M 4 x kd) 2 5 (zu M 4 x kd 2 5 + 1)) x := fun kd z1 z2 z3 z4 => by
    have e25 : zu M 4 x kd 2 5 = q := by rw [zu_other (by decide)]; exact h5
    rw [e25]
    refine ⟨⟨0, 0, Or.inr (Or.inr ⟨z1, z2, by rw [zu_at], by rw [zu_other (by decide), zu_at]; exact z4⟩), fun w => ?_, fun w => ?_⟩, fun c c2 c4 c6 => by rw [zu_other c2, zu_other c4], fun i hi => by rw [zu_row, if_neg hi, zu_other (by decide)], fun i hi => ?_⟩
    · rw [zu_other (by decide), zu_at] at w; omega
    · rw [zu_other (by decide), zu_at] at w; omega
    · rw [zu_other (by decide), zu_row, if_neg hi, zu_other (by decide), zu_other (by decide)]; exact ⟨rfl, rfl⟩
  refine zkv_of rfl (Nat.le_of_ble_eq_true rfl) (SX8_scanToken_0 ⟨by omega, fun z => ⟨fun y => ⟨by omega, fun u => ⟨hx, fun N e => by rw [e]; exact oth 4 z y (Or.inr rfl) (by rw [if_neg u])⟩, fun u => ⟨hx, fun N e => by rw [e]; exact oth 3 z y (Or.inl rfl) (by rw [if_pos u])⟩⟩, fun y => ⟨_, c_scanNumber hb hL h1 h5 hq hx y, fun N h => h⟩⟩, fun z => ⟨_, c_scanWord hb hL h1 h5 hq hx z, fun N h => h⟩⟩)
/-- a token of the class, between two places -/
def TkC (b : Int → Int) (L : Int) (N : zM) (pos : Nat → Int) (t : Nat) : Prop := ∃ v w : Int, Tok b L (pos t) (N 5 t) (N 4 t) v w (pos (t + 1)) ∧ (N 4 t = 1 → wnr' (N 6 t) w) ∧ (N 4 t = 2 → N 6 t = v ∧ 0 ≤ v ∧ v ≤ 9999)
def TS (b : Int → Int) (L : Int) (N : zM) (pos : Nat → Int) (T : Nat) : Prop := pos 0 = 0 ∧ T ≤ 900 ∧ (∀ t : Nat, t ≤ T → TkC b L N pos t ∧ 0 ≤ pos t ∧ pos t ≤ L) ∧ (∀ t : Nat, t < T → 1 ≤ N 4 t ∧ N 4 t ≤ 4) ∧ N 4 T = 0
theorem c_scan (hb : ∀ i : Int, 0 ≤ i → i < L → M 3 i = b i ∧ 0 ≤ b i ∧ b i ≤ 255) (hL : 0 ≤ L ∧ L ≤ 900) (h1 : M 2 1 = L) : zKv g (z1 o) mX8_scan [zA g 2] M (fun N => (∃ pos T, TS b L N pos T) ∧ N 2 1 = L ∧ ∀ c : Nat, c ≠ 2 → c ≠ 4 → c ≠ 5 → c ≠ 6 → N c = M c) := by
  obtain ⟨l, hl⟩ := znn hL.1
  refine zkv_of rfl (Nat.le_of_ble_eq_true rfl) (SX8_scan_0 ?_)
  suffices hs : ∀ (j t : Nat) (P : zM) (pos : Nat → Int), t + j = 901 → pos 0 = 0 → (∀ u : Nat, u < t → TkC b L P pos u ∧ (0 ≤ pos u ∧ pos u ≤ L) ∧ 1 ≤ P 4 u ∧ P 4 u ≤ 4) → P 2 5 = pos t → (t : Int) ≤ pos t → pos t ≤ L → P 2 1 = L → (∀ c : Nat, c ≠ 2 → c ≠ 4 → c ≠ 5 → c ≠ 6 → P c = M c) → zT g (z1 o) mX8_scan (zQv (z1 o) (fun N => (∃ pos T, TS b L N pos T) ∧ N 2 1 = L ∧ ∀ c : Nat, c ≠ 2 → c ≠ 4 → c ≠ 5 → c ≠ 6 → N c = M c)) 7 [(0, zA g 2), (1, zI t)] [] P from hs 901 0 _ (fun _ => 0) rfl rfl (fun u h => by omega) (by rw [zu_at]) (Int.le_refl _) (by show (0 : Int) ≤ L; omega) (by rw [zu_row, if_neg (by decide)]; exact h1) (fun c c2 _ _ _ => zu_other c2)
  intro j
  induction j with
  | zero => intro t P pos ht hp0 htk h5 h6 h7 h8 h9; omega
  | succ j ih =>
    intro t P pos ht hp0 htk h5 h6 h7 h8 h9
    refine SX8_scan_7 ⟨by omega, fun z => by omega, fun _ => ?_⟩
    have fin : ∀ (q : Int) (Q : zM), rnE cBl b L (pos t) q → Q 2 5 = q → (∀ i : Int, i ≠ 5 → Q 2 i = P 2 i) → (∀ c : Nat, c ≠ 2 → Q c = P c) → zT g (z1 o) mX8_scan (zQv (z1 o) (fun N => (∃ pos T, TS b L N pos T) ∧ N 2 1 = L ∧ ∀ c : Nat, c ≠ 2 → c ≠ 4 → c ≠ 5 → c ≠ 6 → N c = M c)) 53 [(0, zA g 2), (1, zI t)] [] Q := by
      intro q Q hq hQ5 hQ2 hQ
      have q1 : Q 2 1 = L := by rw [hQ2 1 (by decide)]; exact h8
      have qle := rnE_le hq h7
      have qge := hq.1
      have a25 : zu Q 5 t (Q 2 5) 2 5 = q := by rw [zu_other (by decide)]; exact hQ5
      have a21 : zu Q 5 t (Q 2 5) 2 1 = L := by rw [zu_other (by decide)]; exact q1
      refine SX8_scan_53 ⟨by omega, ?_⟩
      rw [a25, a21]
      refine ⟨by omega, by omega, fun z => ⟨by omega, ?_⟩, fun z N10 e10 => ?_⟩
      · have hv := hb q (by omega) z
        have hb' : ∀ i : Int, 0 ≤ i → i < L → zu Q 5 t (Q 2 5) 3 i = b i ∧ 0 ≤ b i ∧ b i ≤ 255 := fun i a c => by rw [zu_other (by decide), hQ 3 (by decide), h9 3 (by decide) (by decide) (by decide) (by decide)]; exact hb i a c
        rw [(hb' q (by omega) z).1]
        refine ⟨_, c_scanToken hb' hL.2 a21 a25 ⟨by omega, z⟩ (by omega), fun M7 h7' => ?_⟩
        obtain ⟨⟨v, w, k1, k2, k3⟩, f1, f2, f3⟩ := h7'
        have nx := TokB_nx k1 z
        have e5 : ∀ i : Int, M7 5 i = if i = t then q else P 5 i := fun i => by rw [f1 5 (by decide) (by decide) (by decide), zu_row, hQ5, hQ 5 (by decide)]
        have e4 : ∀ i : Int, i ≠ t → M7 4 i = P 4 i := fun i hi => by rw [(f3 i hi).1, zu_other (by decide), hQ 4 (by decide)]
        have e6 : ∀ i : Int, i ≠ t → M7 6 i = P 6 i := fun i hi => by rw [(f3 i hi).2, zu_other (by decide), hQ 6 (by decide)]
        refine ih (t + 1) M7 (fun u => if u = t + 1 then M7 2 5 else pos u) (by omega) (by rw [if_neg (by omega)]; exact hp0) (fun u hu => ?_) (by rw [if_pos rfl]) (by rw [if_pos rfl]; omega) (by rw [if_pos rfl]; omega) (by rw [f2 1 (by decide)]; exact a21) (fun c c2 c4 c5 c6 => by rw [f1 c c2 c4 c6, zu_other c5, hQ c c2]; exact h9 c c2 c4 c5 c6)
        by_cases y : u = t
        · subst y
          refine ⟨⟨v, w, ?_, k2, k3⟩, ?_, nx.2.2⟩
          · show Tok b L (if u = u + 1 then _ else pos u) (M7 5 u) (M7 4 u) v w (if u + 1 = u + 1 then M7 2 5 else _)
            rw [if_neg (by omega), if_pos rfl, e5, if_pos rfl]
            exact ⟨hq, Or.inr ⟨z, k1⟩⟩
          · rw [if_neg (by omega)]; omega
        · obtain ⟨⟨v', w', t1, t2, t3⟩, t4, t5⟩ := htk u (by omega)
          have un : (u : Int) ≠ t := by omega
          refine ⟨⟨v', w', ?_, ?_, ?_⟩, ?_, ?_⟩
          · show Tok b L (if u = t + 1 then _ else pos u) (M7 5 u) (M7 4 u) v' w' (if u + 1 = t + 1 then M7 2 5 else pos (u + 1))
            rw [if_neg (by omega), if_neg (by omega), e5, if_neg un, e4 u un]; exact t1
          · rw [e4 u un, e6 u un]; exact t2
          · rw [e4 u un, e6 u un]; exact t3
          · rw [if_neg (by omega)]; exact t4
          · rw [e4 u un]; exact t5
      · rw [hQ5] at e10
        have e5 : ∀ i : Int, zu N10 4 t 0 5 i = if i = t then q else P 5 i := fun i => by rw [zu_other (by decide), e10, zu_row, hQ 5 (by decide)]
        have e4 : ∀ i : Int, i ≠ t → zu N10 4 t 0 4 i = P 4 i := fun i hi => by rw [zu_row, if_neg hi, e10, zu_other (by decide), hQ 4 (by decide)]
        have e6 : zu N10 4 t 0 6 = P 6 := by rw [zu_other (by decide), e10, zu_other (by decide), hQ 6 (by decide)]
        refine ⟨⟨fun u => if u = t + 1 then q else pos u, t, ?_, by omega, fun u hu => ?_, fun u hu => ?_, by rw [zu_at]⟩, ?_, fun c c2 c4 c5 c6 => by rw [zu_other c4, e10, zu_other c5, hQ c c2]; exact h9 c c2 c4 c5 c6⟩
        · show (if 0 = t + 1 then _ else pos 0) = 0
          rw [if_neg (by omega)]; exact hp0
        · by_cases y : u = t
          · subst y
            refine ⟨⟨0, 0, ?_, fun w => ?_, fun w => ?_⟩, ?_⟩
            · show Tok b L (if u = u + 1 then _ else pos u) _ _ 0 0 (if u + 1 = u + 1 then q else _)
              rw [if_neg (by omega), if_pos rfl, e5, if_pos rfl, zu_at]
              exact ⟨hq, Or.inl ⟨by omega, rfl, rfl⟩⟩
            · rw [zu_at] at w; exact absurd w (by decide)
            · rw [zu_at] at w; exact absurd w (by decide)
            · show 0 ≤ (if u = u + 1 then _ else pos u) ∧ (if u = u + 1 then _ else pos u) ≤ L
              rw [if_neg (by omega)]; omega
          · obtain ⟨⟨v', w', t1, t2, t3⟩, t4, t5⟩ := htk u (by omega)
            have un : (u : Int) ≠ t := by omega
            refine ⟨⟨v', w', ?_, ?_, ?_⟩, ?_⟩
            · show Tok b L (if u = t + 1 then _ else pos u) _ _ v' w' (if u + 1 = t + 1 then q else pos (u + 1))
              rw [if_neg (by omega), if_neg (by omega), e5, if_neg un, e4 u un]; exact t1
            · rw [e4 u un, e6]; exact t2
            · rw [e4 u un, e6]; exact t3
            · show 0 ≤ (if u = t + 1 then _ else pos u) ∧ (if u = t + 1 then _ else pos u) ≤ L
              rw [if_neg (by omega)]; exact t4
        · have un : (u : Int) ≠ t := by omega
          rw [e4 u un]; exact (htk u hu).2.2
        · rw [zu_other (by decide), e10, zu_other (by decide)]; exact q1
    suffices hs2 : ∀ (f : Nat) (q : Int) (Q : zM), q + f = L → pos t ≤ q → (∀ i : Int, pos t ≤ i → i < q → i < L ∧ cBl (b i)) → Q 2 5 = q → (∀ i : Int, i ≠ 5 → Q 2 i = P 2 i) → (∀ c : Nat, c ≠ 2 → Q c = P c) → zT g (z1 o) mX8_scan (zQv (z1 o) (fun N => (∃ pos T, TS b L N pos T) ∧ N 2 1 = L ∧ ∀ c : Nat, c ≠ 2 → c ≠ 4 → c ≠ 5 → c ≠ 6 → N c = M c)) 14 [(0, zA g 2), (1, zI t)] [] Q from hs2 (L - pos t).toNat (pos t) P (by omega) (Int.le_refl _) (fun i a c => by omega) h5 (fun _ _ => rfl) (fun _ _ => rfl)
    intro f
    induction f with
    | zero =>
      intro q Q hf hge hr hQ5 hQ2 hQ
      have q1 : Q 2 1 = L := by rw [hQ2 1 (by decide)]; exact h8
      exact SX8_scan_14 ⟨by omega, by omega, fun _ => fin q Q ⟨hge, hr, fun w => by omega⟩ hQ5 hQ2 hQ, fun z => by omega⟩
    | succ f ihf =>
      intro q Q hf hge hr hQ5 hQ2 hQ
      have q1 : Q 2 1 = L := by rw [hQ2 1 (by decide)]; exact h8
      have hv := hb q (by omega) (by omega)
      have e3 : Q 3 = M 3 := by rw [hQ 3 (by decide), h9 3 (by decide) (by decide) (by decide) (by decide)]
      refine SX8_scan_14 ⟨by omega, by omega, fun z => by omega, fun _ => ?_⟩
      rw [hQ5, e3, hv.1]
      refine ⟨by omega, by omega, fun z => fin q Q ⟨hge, hr, fun w => z w.2⟩ hQ5 hQ2 hQ, fun z => ihf (q + 1) _ (by omega) (by omega) (fun i a c => ?_) (by rw [zu_at]) (fun i hi => by rw [zu_row, if_neg hi, hQ2 i hi]) (fun c hc => by rw [zu_other hc, hQ c hc])⟩
      by_cases y : i = q
      · rw [y]; exact ⟨by omega, z⟩
      · exact hr i a (by omega)
/-- the reference's next token -/
def goF (M N : zM) : Prop := (∀ c : Nat, c ≠ 1 → N c = M c) ∧ ∀ i : Int, i ≠ 3 → i ≠ 4 → i ≠ 5 → i ≠ 6 → i ≠ 11 → N 1 i = M 1 i
def goP (b : Int → Int) (L p : Int) (N : zM) : Prop := ∃ v w : Int, Tok b L p (N 1 4) (N 1 5) v w (N 1 3) ∧ (N 1 5 = 1 → N 1 11 = w) ∧ (N 1 5 = 2 → N 1 6 = v)
theorem c_goOn (hb : ∀ i : Int, 0 ≤ i → i < L → M 2 i = b i ∧ 0 ≤ b i ∧ b i ≤ 255) (hL : 0 ≤ L ∧ L ≤ 900) (h2 : M 1 2 = L) (h3 : M 1 3 = p) (hp : 0 ≤ p ∧ p ≤ L) : zKv g (z2 o) mX10_goOn [zA g 1] M (fun N => goP b L p N ∧ goF M N) := by
  refine zkv_of rfl (Nat.le_of_ble_eq_true rfl) ?_
  have hrr : ∀ (Q : zM) (i : Int), Q 2 = M 2 → Q 1 2 = L → 0 ≤ i → hr Q i = (if i < L then b i else -1) := fun Q i e1 e2 h0 => by
    unfold hr; rw [e1, e2]
    by_cases z : i < L
    · rw [if_pos z, if_pos z]; exact (hb i h0 z).1
    · rw [if_neg z, if_neg z]
  suffices hs : ∀ (j : Nat) (q : Int) (Q : zM), q + j = L → p ≤ q → (∀ i : Int, p ≤ i → i < q → i < L ∧ cBl (b i)) → Q 1 3 = q → (∀ i : Int, i ≠ 3 → Q 1 i = M 1 i) → (∀ c : Nat, c ≠ 1 → Q c = M c) → zT g (z2 o) mX10_goOn (zQv (z2 o) (fun N => goP b L p N ∧ goF M N)) 0 [(0, zA g 1)] [] Q from hs (L - p).toNat p M (by omega) (Int.le_refl _) (fun i a c => by omega) h3 (fun _ _ => rfl) (fun _ _ => rfl)
  have fin : ∀ (q : Int) (Q : zM), q ≤ L → rnE cBl b L p q → Q 1 3 = q → (∀ i : Int, i ≠ 3 → Q 1 i = M 1 i) → (∀ c : Nat, c ≠ 1 → Q c = M c) → ∀ N9 : zM, N9 = zu Q 1 4 (Q 1 3) → ∀ N11 : zM, N11 = zu N9 1 11 0 → ∀ Z : zM, Z = zu N11 1 6 0 → (hOk Z (Z 1 3 + 0)) ∧ (-2147483648 ≤ (hr Z (Z 1 3 + 0)) ∧ (hr Z (Z 1 3 + 0)) ≤ 2147483647) ∧ ((0 ≤ (hr Z (Z 1 3 + 0))) → (-2147483648 ≤ (hr Z (Z 1 3 + 0)) ∧ (hr Z (Z 1 3 + 0)) ≤ 2147483647) ∧ ((¬ (cLe (hr Z (Z 1 3 + 0)))) → ((¬ (cDi (hr Z (Z 1 3 + 0)))) → (((hr Z (Z 1 3 + 0)) ≠ 59) → ∀ N34 : zM, N34 = Z → ∀ N36 : zM, N36 = zu N34 1 5 4 → (fun N => goP b L p N ∧ goF M N) (zu N36 1 3 ((N36 1 3) + 1))) ∧ (((hr Z (Z 1 3 + 0)) = 59) → ∀ N38 : zM, N38 = Z → ∀ N40 : zM, N40 = zu N38 1 5 3 → (fun N => goP b L p N ∧ goF M N) (zu N40 1 3 ((N40 1 3) + 1)))) ∧ ((cDi (hr Z (Z 1 3 + 0))) → zT g (z2 o) mX10_goOn (zQv (z2 o) (fun N => goP b L p N ∧ goF M N)) 148 [(0, zA g 1), (1, zI 0)] [] Z)) ∧ ((cLe (hr Z (Z 1 3 + 0))) → zT g (z2 o) mX10_goOn (zQv (z2 o) (fun N => goP b L p N ∧ goF M N)) 78 [(0, zA g 1), (1, zI 0)] [] Z)) ∧ ((¬ (0 ≤ (hr Z (Z 1 3 + 0)))) → ∀ N42 : zM, N42 = Z → (fun N => goP b L p N ∧ goF M N) (zu N42 1 5 0)) := by
    intro q Q hqL hq h3 hQ1 hQ N9 e9 N11 e11 Z eZ
    have z1 : ∀ i : Int, Z 1 i = if i = 6 then 0 else if i = 11 then 0 else if i = 4 then q else Q 1 i := fun i => by rw [eZ, zu_row, e11, zu_row, e9, zu_row, h3]
    have zo : ∀ c : Nat, c ≠ 1 → Z c = M c := fun c hc => by rw [eZ, zu_other hc, e11, zu_other hc, e9, zu_other hc, hQ c hc]
    have z3 : Z 1 3 = q := by rw [z1, if_neg (by decide), if_neg (by decide), if_neg (by decide)]; exact h3
    have z2' : Z 1 2 = L := by rw [z1, if_neg (by decide), if_neg (by decide), if_neg (by decide), hQ1 2 (by decide)]; exact h2
    have z4 : Z 1 4 = q := by rw [z1, if_neg (by decide), if_neg (by decide), if_pos rfl]
    have z6 : Z 1 6 = 0 := by rw [z1, if_pos rfl]
    have z11 : Z 1 11 = 0 := by rw [z1, if_neg (by decide), if_pos rfl]
    have zF : ∀ i : Int, i ≠ 3 → i ≠ 4 → i ≠ 5 → i ≠ 6 → i ≠ 11 → Z 1 i = M 1 i := fun i a c d e f => by rw [z1, if_neg e, if_neg f, if_neg c, hQ1 i a]
    have hge := hq.1
    have hh : ∀ i : Int, 0 ≤ i → hr Z i = (if i < L then b i else -1) := fun i h0 => hrr Z i (zo 2 (by decide)) z2' h0
    rw [z3, Int.add_zero, hh q (by omega)]
    refine ⟨⟨by omega, by omega⟩, ?_⟩
    by_cases hlt : q < L
    · have hv := hb q (by omega) hlt
      rw [if_pos hlt]
      have fr : ∀ (kd : Int), goF M (zu (zu Z 1 5 kd) 1 3 (q + 1)) := fun kd => ⟨fun c hc => by rw [zu_other hc, zu_other hc, zo c hc], fun i a c d e f => by rw [zu_row, if_neg a, zu_row, if_neg d]; exact zF i a c d e f⟩
      have oth : ∀ (kd : Int), ¬ cLe (b q) → ¬ cDi (b q) → kd = (if b q = 59 then 3 else 4) → goP b L p (zu (zu Z 1 5 kd) 1 3 (q + 1)) ∧ goF M (zu (zu Z 1 5 kd) 1 3 (q + 1)) := fun kd y1 y2 y3 => by
        have k5 : zu (zu Z 1 5 kd) 1 3 (q + 1) 1 5 = kd := by rw [zu_row, if_neg (by decide), zu_at]
        refine ⟨⟨0, 0, ?_, fun w => ?_, fun w => ?_⟩, fr kd⟩
        · rw [k5, zu_at, zu_row, if_neg (by decide), zu_row, if_neg (by decide), z4]
          exact ⟨hq, Or.inr ⟨hlt, Or.inr (Or.inr ⟨y1, y2, rfl, y3⟩)⟩⟩
        · rw [k5, y3] at w
          by_cases u : b q = 59
          · rw [if_pos u] at w; omega
          · rw [if_neg u] at w; omega
        · rw [k5, y3] at w
          by_cases u : b q = 59
          · rw [if_pos u] at w; omega
          · rw [if_neg u] at w; omega
      refine ⟨by omega, fun _ => ⟨by omega, fun y => ⟨fun y' => ⟨fun u N34 e34 N36 e36 => ?_, fun u N38 e38 N40 e40 => ?_⟩, fun y' => ?_⟩, fun y => ?_⟩, fun z => by omega⟩
      · show goP b L p (zu N36 1 3 (N36 1 3 + 1)) ∧ goF M (zu N36 1 3 (N36 1 3 + 1))
        rw [show N36 1 3 = q by rw [e36, zu_row, if_neg (by decide), e34]; exact z3, e36, e34]; exact oth 4 y y' (by rw [if_neg u])
      · show goP b L p (zu N40 1 3 (N40 1 3 + 1)) ∧ goF M (zu N40 1 3 (N40 1 3 + 1))
        rw [show N40 1 3 = q by rw [e40, zu_row, if_neg (by decide), e38]; exact z3, e40, e38]; exact oth 3 y y' (by rw [if_pos u])
      · -- digits
        suffices hs : ∀ (j n : Nat) (P : zM), q + n + j = L → (∀ i : Int, q ≤ i → i < q + n → i < L ∧ cDi (b i)) → (∀ c : Nat, c ≠ 1 → P c = M c) → (∀ i : Int, i ≠ 6 → P 1 i = Z 1 i) → P 1 6 = nv (fun j => b (q + j)) (min n 4) → zT g (z2 o) mX10_goOn (zQv (z2 o) (fun N => goP b L p N ∧ goF M N)) 148 [(0, zA g 1), (1, zI n)] [] P from hs (L - q).toNat 0 Z (by omega) (fun i a c => by omega) zo (fun _ _ => rfl) z6
        have endD : ∀ (n : Nat) (P : zM), q + n ≤ L → rnE cDi b L q (q + n) → (∀ c : Nat, c ≠ 1 → P c = M c) → (∀ i : Int, i ≠ 6 → P 1 i = Z 1 i) → P 1 6 = nv (fun j => b (q + j)) (min n 4) → (-2147483648 ≤ (n : Int) ∧ (n : Int) ≤ 2147483647) ∧ ((4 < (n : Int)) → ∀ N10 : zM, N10 = zu P 1 5 4 → (fun N => goP b L p N ∧ goF M N) (zu N10 1 3 ((N10 1 3) + n))) ∧ ((¬ (4 < (n : Int))) → ((¬ (cLe (if q + n < L then b (q + n) else -1))) → ∀ N18 : zM, N18 = zu P 1 5 2 → (fun N => goP b L p N ∧ goF M N) (zu N18 1 3 ((N18 1 3) + n))) ∧ ((cLe (if q + n < L then b (q + n) else -1)) → ∀ N20 : zM, N20 = zu P 1 5 4 → (fun N => goP b L p N ∧ goF M N) (zu N20 1 3 ((N20 1 3) + n)))) := by
          intro n P hnL hre hP hP1 hP6
          have p3 : P 1 3 = q := by rw [hP1 3 (by decide)]; exact z3
          have k5 : ∀ kd : Int, zu (zu P 1 5 kd) 1 3 (q + n) 1 5 = kd := fun kd => by rw [zu_row, if_neg (by decide), zu_at]
          have k4 : ∀ kd : Int, zu (zu P 1 5 kd) 1 3 (q + n) 1 4 = q := fun kd => by rw [zu_row, if_neg (by decide), zu_row, if_neg (by decide), hP1 4 (by decide)]; exact z4
          have fr : ∀ (kd : Int), goF M (zu (zu P 1 5 kd) 1 3 (q + n)) := fun kd => ⟨fun c hc => by rw [zu_other hc, zu_other hc, hP c hc], fun i a c d e f => by rw [zu_row, if_neg a, zu_row, if_neg d, hP1 i e]; exact zF i a c d e f⟩
          have bad : (4 < q + n - q ∨ (q + n < L ∧ cLe (b (q + n)))) → goP b L p (zu (zu P 1 5 4) 1 3 (q + n)) ∧ goF M (zu (zu P 1 5 4) 1 3 (q + n)) := fun u => by
            refine ⟨⟨0, 0, ?_, fun w => ?_, fun w => ?_⟩, fr 4⟩
            · rw [k5, k4, zu_at]
              exact ⟨hq, Or.inr ⟨hlt, Or.inr (Or.inl ⟨y', hre, Or.inl rfl, ⟨fun w => absurd w (by decide), fun w => absurd u w⟩, fun w => absurd w (by decide)⟩)⟩⟩
            · rw [k5] at w; exact absurd w (by decide)
            · rw [k5] at w; exact absurd w (by decide)
          refine ⟨by omega, fun u N10 e10 => ?_, fun u => ⟨fun y2 N18 e18 => ?_, fun y2 N20 e20 => ?_⟩⟩
          · show goP b L p (zu N10 1 3 (N10 1 3 + n)) ∧ goF M (zu N10 1 3 (N10 1 3 + n))
            rw [show N10 1 3 = q by rw [e10, zu_row, if_neg (by decide)]; exact p3, e10]; exact bad (Or.inl (by omega))
          · show goP b L p (zu N18 1 3 (N18 1 3 + n)) ∧ goF M (zu N18 1 3 (N18 1 3 + n))
            rw [show N18 1 3 = q by rw [e18, zu_row, if_neg (by decide)]; exact p3, e18]
            have ng : ¬ (4 < q + n - q ∨ (q + n < L ∧ cLe (b (q + n)))) := fun w => by
              rcases w with w | w
              · omega
              · rw [if_pos w.1] at y2; exact y2 w.2
            refine ⟨⟨nv (fun j => b (q + j)) n, 0, ?_, fun w => ?_, fun w => ?_⟩, fr 2⟩
            · rw [k5, k4, zu_at]
              refine ⟨hq, Or.inr ⟨hlt, Or.inr (Or.inl ⟨y', hre, Or.inr rfl, ⟨fun _ => ng, fun _ => rfl⟩, fun _ => ?_⟩)⟩⟩
              rw [show q + (n : Int) - q = n by omega, Int.toNat_natCast]
            · rw [k5] at w; exact absurd w (by decide)
            · rw [zu_row, if_neg (by decide), zu_row, if_neg (by decide), hP6, show min n 4 = n by omega]
          · show goP b L p (zu N20 1 3 (N20 1 3 + n)) ∧ goF M (zu N20 1 3 (N20 1 3 + n))
            rw [show N20 1 3 = q by rw [e20, zu_row, if_neg (by decide)]; exact p3, e20]
            refine bad (Or.inr ?_)
            by_cases w : q + n < L
            · rw [if_pos w] at y2; exact ⟨w, y2⟩
            · rw [if_neg w] at y2; exact absurd y2.1 (by decide)
        intro j
        induction j with
        | zero =>
          intro n P hj hr hP hP1 hP6
          have p3 : P 1 3 = q := by rw [hP1 3 (by decide)]; exact z3
          have p2 : P 1 2 = L := by rw [hP1 2 (by decide)]; exact z2'
          have eh := hrr P (q + n) (hP 2 (by decide)) p2 (by omega)
          refine SX10_goOn_148 ?_
          rw [p3, eh, if_neg (by omega)]
          refine ⟨⟨by omega, by omega⟩, by decide, fun y2 => ?_, fun y2 => absurd y2.1 (by decide)⟩
          have := endD n P (by omega) ⟨by omega, hr, fun w => by omega⟩ hP hP1 hP6
          rw [if_neg (by omega)] at this
          exact this
        | succ j ih =>
          intro n P hj hr hP hP1 hP6
          have p3 : P 1 3 = q := by rw [hP1 3 (by decide)]; exact z3
          have p2 : P 1 2 = L := by rw [hP1 2 (by decide)]; exact z2'
          have eh := hrr P (q + n) (hP 2 (by decide)) p2 (by omega)
          have hv := hb (q + n) (by omega) (by omega)
          refine SX10_goOn_148 ?_
          rw [p3, eh, if_pos (by omega)]
          have hr' : cDi (b (q + n)) → ∀ i : Int, q ≤ i → i < q + ((n + 1 : Nat) : Int) → i < L ∧ cDi (b i) := fun z i a c => by
            by_cases u : i = q + n
            · rw [u]; exact ⟨by omega, z⟩
            · exact hr i a (by omega)
          refine ⟨⟨by omega, by omega⟩, by omega, fun y2 => ?_, fun y2 => ⟨by omega, fun u => ?_, fun u => ?_⟩⟩
          · have := endD n P (by omega) ⟨by omega, hr, fun w => y2 w.2⟩ hP hP1 hP6
            rw [if_pos (by omega)] at this
            exact this
          · exact ih (n + 1) P (by omega) (hr' y2) hP hP1 (by rw [hP6, show min (n + 1) 4 = min n 4 by omega])
          · refine ih (n + 1) _ (by omega) (hr' y2) (fun c hc => by rw [zu_other hc, hP c hc]) (fun i hi => by rw [zu_row, if_neg hi, hP1 i hi]) ?_
            rw [zu_at, hP6, show min n 4 = n by omega, show min (n + 1) 4 = n + 1 by omega]; rfl
      · -- letters
        suffices hs : ∀ (j n : Nat) (P : zM), q + n + j = L → (∀ i : Int, q ≤ i → i < q + n → i < L ∧ cLe (b i)) → (∀ c : Nat, c ≠ 1 → P c = M c) → (∀ i : Int, i ≠ 11 → P 1 i = Z 1 i) → P 1 11 = pkw (fun j => b (q + j)) (min n 8) → zT g (z2 o) mX10_goOn (zQv (z2 o) (fun N => goP b L p N ∧ goF M N)) 78 [(0, zA g 1), (1, zI n)] [] P from hs (L - q).toNat 0 Z (by omega) (fun i a c => by omega) zo (fun _ _ => rfl) z11
        have endL : ∀ (n : Nat) (P : zM), q + n ≤ L → rnE cLe b L q (q + n) → (∀ c : Nat, c ≠ 1 → P c = M c) → (∀ i : Int, i ≠ 11 → P 1 i = Z 1 i) → P 1 11 = pkw (fun j => b (q + j)) (min n 8) → (-2147483648 ≤ (n : Int) ∧ (n : Int) ≤ 2147483647) ∧ (((n : Int) ≤ 8) → ∀ N10 : zM, N10 = zu P 1 5 1 → (fun N => goP b L p N ∧ goF M N) (zu N10 1 3 ((N10 1 3) + n))) ∧ ((¬ ((n : Int) ≤ 8)) → ∀ N12 : zM, N12 = zu P 1 5 4 → (fun N => goP b L p N ∧ goF M N) (zu N12 1 3 ((N12 1 3) + n))) := by
          intro n P hnL hre hP hP1 hP11
          have p3 : P 1 3 = q := by rw [hP1 3 (by decide)]; exact z3
          have k5 : ∀ kd : Int, zu (zu P 1 5 kd) 1 3 (q + n) 1 5 = kd := fun kd => by rw [zu_row, if_neg (by decide), zu_at]
          have k4 : ∀ kd : Int, zu (zu P 1 5 kd) 1 3 (q + n) 1 4 = q := fun kd => by rw [zu_row, if_neg (by decide), zu_row, if_neg (by decide), hP1 4 (by decide)]; exact z4
          have fr : ∀ (kd : Int), goF M (zu (zu P 1 5 kd) 1 3 (q + n)) := fun kd => ⟨fun c hc => by rw [zu_other hc, zu_other hc, hP c hc], fun i a c d e f => by rw [zu_row, if_neg a, zu_row, if_neg d, hP1 i f]; exact zF i a c d e f⟩
          refine ⟨by omega, fun u N10 e10 => ?_, fun u N12 e12 => ?_⟩
          · show goP b L p (zu N10 1 3 (N10 1 3 + n)) ∧ goF M (zu N10 1 3 (N10 1 3 + n))
            rw [show N10 1 3 = q by rw [e10, zu_row, if_neg (by decide)]; exact p3, e10]
            refine ⟨⟨0, pkw (fun j => b (q + j)) n, ?_, fun w => ?_, fun w => ?_⟩, fr 1⟩
            · rw [k5, k4, zu_at]
              refine ⟨hq, Or.inr ⟨hlt, Or.inl ⟨y, hre, by rw [if_neg (by omega)], fun _ => ?_⟩⟩⟩
              rw [show q + (n : Int) - q = n by omega, Int.toNat_natCast]
            · rw [zu_row, if_neg (by decide), zu_row, if_neg (by decide), hP11, show min n 8 = n by omega]
            · rw [k5] at w; exact absurd w (by decide)
          · show goP b L p (zu N12 1 3 (N12 1 3 + n)) ∧ goF M (zu N12 1 3 (N12 1 3 + n))
            rw [show N12 1 3 = q by rw [e12, zu_row, if_neg (by decide)]; exact p3, e12]
            refine ⟨⟨0, 0, ?_, fun w => ?_, fun w => ?_⟩, fr 4⟩
            · rw [k5, k4, zu_at]
              refine ⟨hq, Or.inr ⟨hlt, Or.inl ⟨y, hre, by rw [if_pos (by omega)], fun w => by omega⟩⟩⟩
            · rw [k5] at w; exact absurd w (by decide)
            · rw [k5] at w; exact absurd w (by decide)
        intro j
        induction j with
        | zero =>
          intro n P hj hr hP hP1 hP6
          have p3 : P 1 3 = q := by rw [hP1 3 (by decide)]; exact z3
          have p2 : P 1 2 = L := by rw [hP1 2 (by decide)]; exact z2'
          have eh := hrr P (q + n) (hP 2 (by decide)) p2 (by omega)
          refine SX10_goOn_78 ?_
          rw [p3, eh, if_neg (by omega)]
          exact ⟨⟨by omega, by omega⟩, by decide, fun y2 => endL n P (by omega) ⟨by omega, hr, fun w => by omega⟩ hP hP1 hP6, fun y2 => absurd y2.1 (by decide)⟩
        | succ j ih =>
          intro n P hj hr hP hP1 hP6
          have p3 : P 1 3 = q := by rw [hP1 3 (by decide)]; exact z3
          have p2 : P 1 2 = L := by rw [hP1 2 (by decide)]; exact z2'
          have eh := hrr P (q + n) (hP 2 (by decide)) p2 (by omega)
          have hv := hb (q + n) (by omega) (by omega)
          refine SX10_goOn_78 ?_
          rw [p3, eh, if_pos (by omega)]
          have hr' : cLe (b (q + n)) → ∀ i : Int, q ≤ i → i < q + ((n + 1 : Nat) : Int) → i < L ∧ cLe (b i) := fun z i a c => by
            by_cases u : i = q + n
            · rw [u]; exact ⟨by omega, z⟩
            · exact hr i a (by omega)
          refine ⟨⟨by omega, by omega⟩, by omega, fun y2 => endL n P (by omega) ⟨by omega, hr, fun w => y2 w.2⟩ hP hP1 hP6, fun y2 => ⟨by omega, fun u => ?_, fun u => ?_⟩⟩
          · exact ih (n + 1) P (by omega) (hr' y2) hP hP1 (by rw [hP6, show min (n + 1) 8 = min n 8 by omega])
          · have em : min n 8 = n := by omega
            rw [em] at hP6
            have pi := pkw_in (f := fun j => b (q + j)) n (fun t ht => (hr (q + t) (by omega) (by omega)).2)
            have pw : ((256 ^ n : Nat) : Int) ≤ 72057594037927936 := by
              have : 256 ^ n ≤ 256 ^ 7 := Nat.pow_le_pow_right (by decide) (by omega)
              exact Int.ofNat_le.mpr this
            have e28 : ((2 ^ Int.toNat 8 : Nat) : Int) = 256 := by decide
            rw [hP6, e28]
            obtain ⟨pa, hpa⟩ := znn pi.1
            obtain ⟨ca, hca⟩ := znn hv.2.1
            rw [hpa] at pi ⊢
            rw [hca] at hv ⊢
            have eo : (Int.toNat ((pa : Int) * 256) ||| Int.toNat (ca : Int) : Nat) = pa * 256 + ca := by
              rw [show Int.toNat ((pa : Int) * 256) = pa * 256 by omega, Int.toNat_natCast]
              have := Nat.two_pow_add_eq_or_of_lt (i := 8) (b := ca) (by show ca < 256; omega) pa
              rw [show 2 ^ 8 = 256 from rfl, Nat.mul_comm 256 pa] at this
              exact this.symm
            rw [eo]
            refine ⟨by omega, by omega, by omega, by omega, ih (n + 1) _ (by omega) (hr' y2) (fun c hc => by rw [zu_other hc, hP c hc]) (fun i hi => by rw [zu_row, if_neg hi, hP1 i hi]) ?_⟩
            rw [zu_at, show min (n + 1) 8 = n + 1 by omega]
            show _ = pkw (fun j => b (q + j)) n * 256 + b (q + n)
            rw [hpa, hca]; omega
    · rw [if_neg hlt]
      refine ⟨by decide, fun z => absurd z (by decide), fun _ N42 e42 => ?_⟩
      show goP b L p (zu N42 1 5 0) ∧ goF M (zu N42 1 5 0)
      rw [e42]
      refine ⟨⟨0, 0, ?_, fun w => ?_, fun w => ?_⟩, fun c hc => by rw [zu_other hc, zo c hc], fun i a c d e f => by rw [zu_row, if_neg d]; exact zF i a c d e f⟩
      · rw [zu_at, zu_row, if_neg (by decide), zu_row, if_neg (by decide), z4, z3]
        exact ⟨hq, Or.inl ⟨by omega, rfl, rfl⟩⟩
      · rw [zu_at] at w; exact absurd w (by decide)
      · rw [zu_at] at w; exact absurd w (by decide)
  intro j
  induction j with
  | zero =>
    intro q Q hj hge hr h3 hQ1 hQ
    have eh := hrr Q (Q 1 3 + 0) (hQ 2 (by decide)) (by rw [hQ1 2 (by decide)]; exact h2) (by omega)
    rw [if_neg (by omega)] at eh
    refine SX10_goOn_0 ?_
    rw [eh]
    exact ⟨⟨by omega, by rw [hQ1 2 (by decide)]; omega⟩, by decide, fun z => absurd z (by decide), fun _ => ⟨fun _ N9 e9 N11 e11 => fin q Q (by omega) ⟨hge, hr, fun w => by omega⟩ h3 hQ1 hQ N9 e9 N11 e11 _ rfl, fun z => absurd z (by decide)⟩⟩
  | succ j ih =>
    intro q Q hj hge hr h3 hQ1 hQ
    have hv := hb q (by omega) (by omega)
    have eh := hrr Q (Q 1 3 + 0) (hQ 2 (by decide)) (by rw [hQ1 2 (by decide)]; exact h2) (by omega)
    rw [if_pos (by omega), h3, Int.add_zero] at eh
    have nx : cBl (b q) → zT g (z2 o) mX10_goOn (zQv (z2 o) (fun N => goP b L p N ∧ goF M N)) 0 [(0, zA g 1)] [] (zu Q 1 3 (q + 1)) := fun z => ih (q + 1) _ (by omega) (by omega) (fun i a c => by
      by_cases y : i = q
      · rw [y]; exact ⟨by omega, z⟩
      · exact hr i a (by omega)) (by rw [zu_at]) (fun i hi => by rw [zu_row, if_neg hi, hQ1 i hi]) (fun c hc => by rw [zu_other hc, hQ c hc])
    refine SX10_goOn_0 ?_
    rw [h3, Int.add_zero, eh]
    refine ⟨⟨by omega, by rw [hQ1 2 (by decide)]; omega⟩, by omega, fun z => nx (Or.inl z), fun z1 => ⟨fun z2 N9 e9 N11 e11 => ?_, fun z => nx (Or.inr z)⟩⟩
    rw [← h3] at e9
    exact fin q Q (by omega) ⟨hge, hr, fun w => by rcases w.2 with y | y <;> contradiction⟩ h3 hQ1 hQ N9 e9 N11 e11 _ rfl
end SC
