/-! making: links as they will be, but for the objects under way -/
def spl (FL : List (List Nat)) (n : Nat) : List (Nat × List Nat) → Nat → List Nat
  | [], a => if a ≤ n then FL.getD a [] else []
  | (x, r) :: P, a => if a = x then r else spl FL n P a
def Sp (SL : List (Nat × Nat)) (FL : List (List Nat)) (n : Nat) (P : List (Nat × List Nat)) : zS := (true, SL.take n, fun a k => (spl FL n P a).getD k 0)
def zer (m : Nat) : List Nat := List.replicate m 0
section MK
variable {SL : List (Nat × Nat)} {FL : List (List Nat)} {n m x j b a : Nat} {P : List (Nat × List Nat)} {r : List Nat} {q : Nat × Nat}
theorem spl_up (h : a ≠ n + 1) : spl FL (n + 1) P a = spl FL n P a := by
  induction P with
  | nil =>
    show (if a ≤ n + 1 then _ else _) = (if a ≤ n then _ else _)
    by_cases z : a ≤ n
    · rw [if_pos z, if_pos (by omega)]
    · rw [if_neg z, if_neg (by omega)]
  | cons p P ih =>
    obtain ⟨x, r⟩ := p
    show (if a = x then r else spl FL (n + 1) P a) = (if a = x then r else spl FL n P a)
    rw [ih]
theorem spl_no (h : ∀ p ∈ P, p.1 ≠ a) (ha : a ≤ n) : spl FL n P a = FL.getD a [] := by
  induction P with
  | nil => show (if a ≤ n then _ else _) = _; rw [if_pos ha]
  | cons p P ih =>
    obtain ⟨x, r⟩ := p
    show (if a = x then r else spl FL n P a) = _
    rw [if_neg (fun z => h (x, r) List.mem_cons_self z.symm), ih (fun p hp => h p (List.mem_cons_of_mem _ hp))]
theorem sp_len (h : n ≤ SL.length) : (Sp SL FL n P).2.1.length = n := by show (SL.take n).length = n; rw [List.length_take]; omega
theorem sp_lt (h : SL[n]? = some q) : n < SL.length := (List.getElem?_eq_some_iff.mp h).1
theorem sp_arr (h : SL[n]? = some q) (hP : ∀ p ∈ P, p.1 ≠ n + 1) (h0 : FL.getD (n + 1) [] = []) : zsn (Sp SL FL n P) q = Sp SL FL (n + 1) P := by
  have hl := sp_lt h
  have e1 : (Sp SL FL n P).2.1 ++ [q] = SL.take (n + 1) := by show SL.take n ++ [q] = _; rw [List.take_add_one, h]; rfl
  unfold zsn
  rw [e1, sp_len (by omega)]
  show (true, SL.take (n + 1), _) = (true, SL.take (n + 1), _)
  congr 2
  funext a k
  by_cases z : a = n + 1
  · rw [if_pos z, z, spl_no hP (Nat.le_refl _), h0]; rfl
  · rw [if_neg z, spl_up z]; rfl
theorem sp_obj (h : SL[n]? = some q) : zsn (Sp SL FL n P) q = Sp SL FL (n + 1) ((n + 1, zer m) :: P) := by
  have hl := sp_lt h
  have e1 : (Sp SL FL n P).2.1 ++ [q] = SL.take (n + 1) := by show SL.take n ++ [q] = _; rw [List.take_add_one, h]; rfl
  unfold zsn
  rw [e1, sp_len (by omega)]
  show (true, SL.take (n + 1), _) = (true, SL.take (n + 1), _)
  congr 2
  funext a k
  show _ = (if a = n + 1 then zer m else spl FL (n + 1) P a).getD k 0
  by_cases z : a = n + 1
  · rw [if_pos z, if_pos z]
    unfold zer
    rw [List.getD_eq_getElem?_getD, List.getElem?_replicate]
    split <;> rfl
  · rw [if_neg z, if_neg z, spl_up z]; rfl
theorem sp_put (hj : j < r.length) : zsf (Sp SL FL n ((x, r) :: P)) x j b = Sp SL FL n ((x, r.set j b) :: P) := by
  unfold zsf
  show (true, SL.take n, _) = (true, SL.take n, _)
  congr 2
  funext a k
  show (if a = x ∧ k = j then b else (if a = x then r else spl FL n P a).getD k 0) = (if a = x then r.set j b else spl FL n P a).getD k 0
  by_cases z : a = x
  · rw [if_pos z, if_pos z, List.getD_eq_getElem?_getD, List.getD_eq_getElem?_getD, List.getElem?_set]
    by_cases y : k = j
    · rw [if_pos ⟨z, y⟩, if_pos y.symm, if_pos (by omega)]; rfl
    · rw [if_neg (fun w => y w.2), if_neg (fun w => y w.symm)]
  · rw [if_neg (fun w => z w.1), if_neg z, if_neg z]
theorem sp_drop (h : spl FL n P x = r) : Sp SL FL n ((x, r) :: P) = Sp SL FL n P := by
  unfold Sp
  congr 2
  funext a k
  show (if a = x then r else spl FL n P a).getD k 0 = _
  by_cases z : a = x
  · rw [if_pos z, z, h]
  · rw [if_neg z]
theorem sp_zh (ha : a < n) (h : SL[a]? = some q) : zh (Sp SL FL n P) (a + 1) = q := by
  show (SL.take n).getD a (9, 0) = q
  rw [List.getD_eq_getElem?_getD, List.getElem?_take, if_pos ha, h]; rfl
end MK
section MR
variable {g : zG} {d : zD} {mm kw : Nat × Nat} {σ0 : zS} {Q : zP} {pc : Nat} {l : List (Nat × Value)} {st : List Value} {M : zM} {SL : List (Nat × Nat)} {FL : List (List Nat)} {n m x j b idx ci kd : Nat} {P : List (Nat × List Nat)} {r : List Nat} {v : Int}
theorem zn_arr {at_ : ArrayType} (hd : decode d.2.1 pc = .ok (.newarray at_, 2)) (hkd : (at_ = .int ∧ kd = 1) ∨ (at_ = .boolean ∧ kd = 2) ∨ (at_ = .long ∧ kd = 3)) (hw : Cond.arrayClass (newarray.typeOf at_) ∈ zt) (hv : v = (m : Int)) (hm : m ≤ 100000) (h : SL[n]? = some (kd, m)) (hP : ∀ p ∈ P, p.1 ≠ n + 1) (h0 : FL.getD (n + 1) [] = []) (hk : kw.1 + 1 ≤ mm.1 ∧ kw.2 + m ≤ mm.2)
    (k : zR g d mm σ0 Q (pc + 2) l (zA g (n + 1) :: st) (kw.1 + 1, kw.2 + m) (Sp SL FL (n + 1) P) (zrw M (n + 1) (fun _ => 0))) : zR g d mm σ0 Q pc l (zI v :: st) kw (Sp SL FL n P) M := by
  subst hv
  have hl := sp_lt h
  refine zr_newa hd hkd hw rfl ⟨by omega, by omega⟩ (by rw [Int.toNat_natCast]; exact hk) ?_
  rw [Int.toNat_natCast, sp_len (by omega), sp_arr h hP h0]
  exact k
theorem zn_sands (hd : decode d.2.1 pc = .ok (.anewarray idx, 3)) (hw : Cond.classLink d.1.cls idx "SandMarch$Sand" ∈ zt) (hv : v = (m : Int)) (hm : m ≤ 100000) (h : SL[n]? = some (4, m)) (hP : ∀ p ∈ P, p.1 ≠ n + 1) (h0 : FL.getD (n + 1) [] = []) (hk : kw.1 + 1 ≤ mm.1 ∧ kw.2 + m ≤ mm.2)
    (k : zR g d mm σ0 Q (pc + 3) l (zA g (n + 1) :: st) (kw.1 + 1, kw.2 + m) (Sp SL FL (n + 1) P) (zrw M (n + 1) (fun _ => 0))) : zR g d mm σ0 Q pc l (zI v :: st) kw (Sp SL FL n P) M := by
  subst hv
  have hl := sp_lt h
  refine zr_anew hd hw rfl ⟨by omega, by omega⟩ (by rw [Int.toNat_natCast]; exact hk) ?_
  rw [Int.toNat_natCast, sp_len (by omega), sp_arr h hP h0]
  exact k
theorem zn_obj (m : Nat) (hd : decode d.2.1 pc = .ok (.new idx, 3)) (hL : zLn d idx ci m) (h : SL[n]? = some (0, ci)) (hk : kw.1 + 1 ≤ mm.1 ∧ kw.2 + m ≤ mm.2)
    (k : zR g d mm σ0 Q (pc + 3) l (zA g (n + 1) :: st) (kw.1 + 1, kw.2 + m) (Sp SL FL (n + 1) ((n + 1, zer m) :: P)) (zrw M (n + 1) (fun _ => 0))) : zR g d mm σ0 Q pc l st kw (Sp SL FL n P) M := by
  have hl := sp_lt h
  refine zr_new hd hL rfl hk ?_
  rw [sp_len (by omega), sp_obj (m := m) h]
  exact k
theorem zn_put {ty : FieldType} (hd : decode d.2.1 pc = .ok (.putfield idx, 3)) (hL : zLf d.1.cls idx ci j) (hC : zLc ci) (hT : zLt ci j true d.1.cls ty) (hi : d.1.name = "<init>") (hn : narrow ty (zA g b) = zA g b) (hf : fits ty (zA g b) = true) (hk : zfk ci j = 2) (hs : zh (Sp SL FL n ((x, r) :: P)) x = (0, ci)) (h0 : b ≠ 0) (hj : j < r.length)
    (k : zR g d mm σ0 Q (pc + 3) l st kw (Sp SL FL n ((x, r.set j b) :: P)) M) : zR g d mm σ0 Q pc l (zA g b :: zA g x :: st) kw (Sp SL FL n ((x, r) :: P)) M := by
  refine zr_putr hd hL hC hT hi hn hf hk hs h0 ?_
  rw [sp_put hj]
  exact k
end MR
