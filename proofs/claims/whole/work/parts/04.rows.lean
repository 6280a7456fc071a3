def zin (x : Int) : Prop := -2147483648 ≤ x ∧ x ≤ 2147483647
theorem zi_to {x : Int} (h : zin x) : (Int32.ofInt x).toInt = x := Int32.toInt_ofInt_of_le (by have := h.1; omega) (by have := h.2; omega)
theorem zi_lt {x y : Int} (hx : zin x) (hy : zin y) : Int32.ofInt x < Int32.ofInt y ↔ x < y := by rw [Int32.lt_iff_toInt_lt, zi_to hx, zi_to hy]
theorem zi_le {x y : Int} (hx : zin x) (hy : zin y) : Int32.ofInt x ≤ Int32.ofInt y ↔ x ≤ y := by rw [Int32.le_iff_toInt_le, zi_to hx, zi_to hy]
theorem zi_eq {x y : Int} (hx : zin x) (hy : zin y) : Int32.ofInt x = Int32.ofInt y ↔ x = y := by rw [← Int32.toInt_inj, zi_to hx, zi_to hy]
theorem zin0 : zin 0 := ⟨by decide, by decide⟩
theorem zi_nn {x : Int} (hx : zin x) (h0 : 0 ≤ x) : (Int32.ofInt x).toNatClampNeg = x.toNat := by
  show (Int32.ofInt x).toInt.toNat = x.toNat
  rw [zi_to hx]
theorem zi_in {x : Int} {n : Nat} (h0 : 0 ≤ x) (h1 : x < n) (hn : n ≤ 100000) : vp_in (Int32.ofInt x) n := by
  have hx : zin x := ⟨by omega, by omega⟩
  rintro (h | h)
  · have h' : Int32.ofInt x < Int32.ofInt 0 := h
    rw [zi_lt hx zin0] at h'; omega
  · rw [zi_nn hx h0] at h; omega
section ZA
variable {g : zG} {σ : zS} {M M' : zM} {a b ci n kd : Nat} {H H1 : Heap}
theorem zc_obj (h : zcell g σ M a H) (hs : zh σ a = (0, ci)) : ∃ r : vw_C, zcls[ci]? = some r ∧ t_OB (g.1 + a) (g.2.1.1 ci) r.2.2 (g.2.1.2 ci) H (fun k => zfv g (zfk ci k) (σ.2.2 a k) (M a (k : Int))) := by
  unfold zcell at h; rw [hs] at h; exact h
theorem zc_arr (h : zcell g σ M a H) (hs : zh σ a = (kd, n)) (h0 : kd ≠ 0) (h9 : kd ≠ 9) : H[g.1 + a]? = some (arrV (g.2.2.1 kd) n (fun j => zev g kd (M a (j : Int)))) := by
  unfold zcell at h; rw [hs] at h; simp only [h0, h9, if_false] at h; exact h
theorem zc_kept (h : zcell g σ M b H) (hq : H1[g.1 + b]? = H[g.1 + b]?) (hM : ∀ j, M' b j = M b j) : zcell g σ M' b H1 := by
  unfold zcell at h ⊢
  simp only [hM]
  split at h
  · rename_i h0
    rw [if_pos h0]
    obtain ⟨r, h1, h2⟩ := h
    exact ⟨r, h1, h2.kept hq⟩
  · rename_i h0
    rw [if_neg h0]
    split at h
    · rename_i h9
      rw [if_pos h9]; trivial
    · rename_i h9
      rw [if_neg h9, hq]; exact h
/-- a cell of the world is written: the others stay -/
theorem zH.put (h : zH g σ M H) (hz : H1.size = H.size) (oq : ∀ q : Nat, q ≠ g.1 + a → H1[q]? = H[q]?) (hM : ∀ b j, b ≠ a → M' b j = M b j) (ha : zcell g σ M' a H1) : zH g σ M' H1 := by
  refine ⟨fun b => ?_, fun ho => hz.trans (h.2 ho)⟩
  by_cases hb : b = a
  · subst hb; exact ha
  · exact zc_kept (h.1 b) (oq _ (by omega)) (fun j => hM b j hb)
theorem zh_le {q : Nat × Nat} (hs : zh σ a = q) (h9 : q.1 ≠ 9) : 0 < a ∧ a ≤ σ.2.1.length := by
  cases a with
  | zero => subst hs; exact absurd rfl h9
  | succ k =>
    refine ⟨Nat.succ_pos k, ?_⟩
    rcases Nat.lt_or_ge k σ.2.1.length with h | h
    · exact h
    · have : zh σ (k + 1) = (9, 0) := by show σ.2.1.getD k (9, 0) = _; simp [List.getD_eq_getElem?_getD, List.getElem?_eq_none h]
      rw [this] at hs; subst hs; exact absurd rfl h9
theorem zAg_in {q : Nat × Nat} (hs : zh σ a = q) (h9 : q.1 ≠ 9) : zAg g σ (g.1 + a) := by
  have := zh_le hs h9
  exact ⟨by omega, Or.inr (by omega)⟩
theorem zu_ne {x i j : Int} (h : b ≠ a) : zu M a i x b j = M b j := by simp [zu, h]
theorem zu_at (M : zM) (a : Nat) (i x : Int) : zu M a i x a i = x := by simp [zu]
theorem zu_row (M : zM) (a : Nat) (i x j : Int) : zu M a i x a j = if j = i then x else M a j := by simp [zu]
/-- ints and booleans -/
theorem zc_ist {i x : Int} (h0 : 0 ≤ i) (hk : kd = 1 ∨ kd = 2) (hs : zh σ a = (kd, n)) (he : H1[g.1 + a]? = some (arrV (g.2.2.1 kd) n (updV (fun j => zev g kd (M a (j : Int))) i.toNat (zI x)))) : zcell g σ (zu M a i x) a H1 := by
  unfold zcell
  rw [hs]
  have hk0 : kd ≠ 0 := by omega
  have h9 : kd ≠ 9 := by omega
  simp only [hk0, h9, if_false]
  rw [he]
  congr 2
  funext j
  simp only [updV, zu_row]
  by_cases hj : j = i.toNat
  · rw [if_pos hj, if_pos (by omega)]
    rcases hk with rfl | rfl <;> rfl
  · rw [if_neg hj, if_neg (by omega)]
theorem zc_lst {i x : Int} (h0 : 0 ≤ i) (hs : zh σ a = (3, n)) (he : H1[g.1 + a]? = some (arrV (g.2.2.1 3) n (updV (fun j => zev g 3 (M a (j : Int))) i.toNat (zL x)))) : zcell g σ (zu M a i x) a H1 := by
  unfold zcell
  rw [hs]
  simp only [show (3 : Nat) ≠ 0 by decide, show (3 : Nat) ≠ 9 by decide, if_false]
  rw [he]
  congr 2
  funext j
  simp only [updV, zu_row]
  by_cases hj : j = i.toNat
  · rw [if_pos hj, if_pos (by omega)]; rfl
  · rw [if_neg hj, if_neg (by omega)]
theorem zc_ast {i : Int} {v : Nat} (h0 : 0 ≤ i) (hv : v ≠ 0) (hs : zh σ a = (4, n)) (he : H1[g.1 + a]? = some (arrV (g.2.2.1 4) n (updV (fun j => zev g 4 (M a (j : Int))) i.toNat (zA g v)))) : zcell g σ (zu M a i v) a H1 := by
  unfold zcell
  rw [hs]
  simp only [show (4 : Nat) ≠ 0 by decide, show (4 : Nat) ≠ 9 by decide, if_false]
  rw [he]
  congr 2
  funext j
  simp only [updV, zu_row]
  by_cases hj : j = i.toNat
  · rw [if_pos hj, if_pos (by omega)]
    show zA g v = zN g (Int.toNat (v : Int))
    simp [zA, zN, hv]
  · rw [if_neg hj, if_neg (by omega)]
end ZA
/-- a field by its place in a constant pool: class ci, field k -/
def zLf (own : String) (idx ci k : Nat) : Prop := ∃ r : vw_C, zcls[ci]? = some r ∧ k < r.2.2 ∧ (∀ w ∈ u_ws r.1 r.2.1 r.2.2, w ∈ zt) ∧ Cond.fieldLink own idx (r.2.1 k).1 (r.2.1 k).2.1 (r.2.1 k).2.2.1 ∈ zt
/-- what a class's fields are -/
def zLc (ci : Nat) : Prop := ∃ r : vw_C, zcls[ci]? = some r ∧ (∃ ty0 : Nat → FieldType, ∀ k, k < r.2.2 → parseFieldDescriptor (r.2.1 k).2.2.1 = some (ty0 k)) ∧ (∀ a, a < r.2.2 → ∀ b, b < r.2.2 → a ≠ b → (r.2.1 a).2.1 ≠ (r.2.1 b).2.1)
/-- a field that is not final, of a type -/
def zLt (ci k : Nat) (fin : Bool) (own : String) (ty : FieldType) : Prop := ∃ r : vw_C, zcls[ci]? = some r ∧ (r.2.1 k).2.2.2 = fin ∧ (r.2.1 k).1 = own ∧ parseFieldDescriptor (r.2.1 k).2.2.1 = some ty
section ZR2
variable {g : zG} {d : zD} {mm kw : Nat × Nat} {σ0 σ : zS} {Q : zP} {pc pc' : Nat} {l l' : List (Nat × Value)} {st st' : List Value} {M : zM}
theorem zr_istore_n {j : Fin 4} {x : Int} (hd : decode d.2.1 pc = .ok (.istore_n j, 1)) (hn : (j : Nat) < d.2.2.1) (ks : List Nat) (h : lv_pick (((j : Nat), zI x) :: l.filter (fun q => !(q.1 == (j : Nat)) && !(q.1 + 1 == (j : Nat) && q.2.category == 2))) ks = l')
    (k : zR g d mm σ0 Q (pc + 1) l' st kw σ M) : zR g d mm σ0 Q pc l (zI x :: st) kw σ M :=
  fun la p e s m args below meth c B H locs ls hA hS hH hl => lv_istore_n B.1 B.2.1 hd rfl hl hn rfl (fun ls' hl' => k la p e s m args below meth c B H locs ls' hA hS hH (lv_sub hl' ks h))
theorem zr_istore {j : Nat} {x : Int} (hd : decode d.2.1 pc = .ok (.istore j, 2)) (hn : j < d.2.2.1) (ks : List Nat) (h : lv_pick ((j, zI x) :: l.filter (fun q => !(q.1 == j) && !(q.1 + 1 == j && q.2.category == 2))) ks = l')
    (k : zR g d mm σ0 Q (pc + 2) l' st kw σ M) : zR g d mm σ0 Q pc l (zI x :: st) kw σ M :=
  fun la p e s m args below meth c B H locs ls hA hS hH hl => lv_istore B.1 B.2.1 hd hl hn rfl (fun ls' hl' => k la p e s m args below meth c B H locs ls' hA hS hH (lv_sub hl' ks h))
theorem zr_astore_n {j : Fin 4} {x : Nat} (hd : decode d.2.1 pc = .ok (.astore_n j, 1)) (hn : (j : Nat) < d.2.2.1) (ks : List Nat) (h : lv_pick (((j : Nat), zA g x) :: l.filter (fun q => !(q.1 == (j : Nat)) && !(q.1 + 1 == (j : Nat) && q.2.category == 2))) ks = l')
    (k : zR g d mm σ0 Q (pc + 1) l' st kw σ M) : zR g d mm σ0 Q pc l (zA g x :: st) kw σ M :=
  fun la p e s m args below meth c B H locs ls hA hS hH hl => lv_astore_n B.1 B.2.1 hd rfl hl hn rfl (fun ls' hl' => k la p e s m args below meth c B H locs ls' hA hS hH (lv_sub hl' ks h))
theorem zr_astore {j : Nat} {x : Nat} (hd : decode d.2.1 pc = .ok (.astore j, 2)) (hn : j < d.2.2.1) (ks : List Nat) (h : lv_pick ((j, zA g x) :: l.filter (fun q => !(q.1 == j) && !(q.1 + 1 == j && q.2.category == 2))) ks = l')
    (k : zR g d mm σ0 Q (pc + 2) l' st kw σ M) : zR g d mm σ0 Q pc l (zA g x :: st) kw σ M :=
  fun la p e s m args below meth c B H locs ls hA hS hH hl => lv_astore B.1 B.2.1 hd hl hn rfl (fun ls' hl' => k la p e s m args below meth c B H locs ls' hA hS hH (lv_sub hl' ks h))
theorem zr_iinc {j q : Nat} {n x : Int} (hd : decode d.2.1 pc = .ok (.iinc j n, 3)) (hq : l[q]? = some (j, zI x)) (hn : j < d.2.2.1) (ks : List Nat) (h : lv_pick ((j, zI (x + n)) :: l.filter (fun q => !(q.1 == j) && !(q.1 + 1 == j && q.2.category == 2))) ks = l')
    (k : zR g d mm σ0 Q (pc + 3) l' st kw σ M) : zR g d mm σ0 Q pc l st kw σ M :=
  fun la p e s m args below meth c B H locs ls hA hS hH hl => lv_iinc B.1 B.2.1 hd hl hq (Int32.ofInt_add x n).symm hn rfl (fun ls' hl' => k la p e s m args below meth c B H locs ls' hA hS hH (lv_sub hl' ks h))
theorem zr_get {idx ci j a : Nat} (hd : decode d.2.1 pc = .ok (.getfield idx, 3)) (hL : zLf d.1.cls idx ci j) (hs : zh σ a = (0, ci)) (k : zR g d mm σ0 Q (pc + 3) l (zfv g (zfk ci j) (σ.2.2 a j) (M a (j : Int)) :: st) kw σ M) : zR g d mm σ0 Q pc l (zA g a :: st) kw σ M := by
  intro la p e s m args below meth c B H locs ls hA hS hH hl
  have kk := k la p e s m args below meth c B H locs ls hA hS hH hl
  obtain ⟨hx, hb, -, -, -, hown, hts, -, hK, -⟩ := B
  obtain ⟨r, hc, hj, hin, hlink⟩ := hL
  obtain ⟨r', hc', cell, q1, q2, q3, q4⟩ := zc_obj (hH.1 a) hs
  cases hc.symm.trans hc'
  obtain ⟨hSl, hfc, kC, hkC, hkind⟩ := hK.1 ci _ hc
  obtain ⟨cf, kf, fi, f, hi, hsl⟩ := hSl j hj
  refine W.getf hx hb hown (hts _ hlink) hi (u_facts hfc hkC (u_lays hts hin hj) hi).1 q1 (by rw [q3]; exact fun h => by cases h) (v := zfv g (zfk ci j) (σ.2.2 a j) (M a (j : Int))) ?_ rfl rfl hd kk
  rw [hsl]; exact q4 j hj
theorem zr_geti {idx ci j a : Nat} (hd : decode d.2.1 pc = .ok (.getfield idx, 3)) (hL : zLf d.1.cls idx ci j) (hs : zh σ a = (0, ci)) (hk : zfk ci j = 0 ∨ zfk ci j = 3) (k : zR g d mm σ0 Q (pc + 3) l (zI (M a (j : Int)) :: st) kw σ M) : zR g d mm σ0 Q pc l (zA g a :: st) kw σ M :=
  zr_get hd hL hs (by rcases hk with h | h <;> (rw [h]; exact k))
theorem zr_getl {idx ci j a : Nat} (hd : decode d.2.1 pc = .ok (.getfield idx, 3)) (hL : zLf d.1.cls idx ci j) (hs : zh σ a = (0, ci)) (hk : zfk ci j = 1) (k : zR g d mm σ0 Q (pc + 3) l (zL (M a (j : Int)) :: st) kw σ M) : zR g d mm σ0 Q pc l (zA g a :: st) kw σ M :=
  zr_get hd hL hs (by rw [hk]; exact k)
theorem zr_getr {idx ci j a b : Nat} (hd : decode d.2.1 pc = .ok (.getfield idx, 3)) (hL : zLf d.1.cls idx ci j) (hs : zh σ a = (0, ci)) (hk : zfk ci j = 2) (hb : σ.2.2 a j = b) (h0 : b ≠ 0) (k : zR g d mm σ0 Q (pc + 3) l (zA g b :: st) kw σ M) : zR g d mm σ0 Q pc l (zA g a :: st) kw σ M :=
  zr_get hd hL hs (by rw [hk, hb]; show zR g d mm σ0 Q (pc + 3) l (zN g b :: st) kw σ M; simp only [zN, h0, if_false]; exact k)
/-- a field of ints, longs or booleans is written -/
theorem zr_put {idx ci j a : Nat} {v : Value} {x : Int} {ty : FieldType} {own : String} (hd : decode d.2.1 pc = .ok (.putfield idx, 3)) (hL : zLf d.1.cls idx ci j) (hC : zLc ci) (hT : zLt ci j false own ty) (hn : narrow ty v = v) (hf : fits ty v = true) (hs : zh σ a = (0, ci)) (hv : ∀ F, zfv g (zfk ci j) F x = v) (k : zR g d mm σ0 Q (pc + 3) l st kw σ (zu M a (j : Int) x)) : zR g d mm σ0 Q pc l (v :: zA g a :: st) kw σ M := by
  intro la p e s m args below meth c B H locs ls hA hS hH hl
  have k := k la p e s m args below meth c B
  obtain ⟨hx, hb, -, -, -, hown, hts, -, hK, -⟩ := B
  obtain ⟨r, hc, hj, hin, hlink⟩ := hL
  obtain ⟨r', hc', cell, q1, q2, q3, q4⟩ := zc_obj (hH.1 a) hs
  cases hc.symm.trans hc'
  obtain ⟨r', hc', ⟨ty0, hty⟩, hnm⟩ := hC
  cases hc.symm.trans hc'
  obtain ⟨r', hc', hfin, -, hpd⟩ := hT
  cases hc.symm.trans hc'
  have hap := va_apart (own := d.1.cls) hts hin ty0 hty hnm hK hc
  obtain ⟨hSl, hfc, kC, hkC, hkind⟩ := hK.1 ci _ hc
  obtain ⟨cf, kf, fi, f, hi, hsl⟩ := hSl j hj
  have hlay := hts _ (hin _ (u_in_lay hj))
  unfold u_lay at hlay
  rw [if_neg (by rw [hfin]; decide)] at hlay
  have hst := (u_facts hfc hkC (u_lays hts hin hj) hi).1
  have h6 := u_store hfc hkC hkind hlay hi hpd hn hf
  refine W.putK hx hb (f := f) ⟨hown, hts _ hlink, ⟨_, _, _, hi⟩, hst⟩ (by rw [q2]; exact h6) q1 q3 (by rw [hsl]; exact k2_hasslot (q4 j hj)) rfl rfl hd fun H' e1 e2 e3 => ?_
  rw [hsl] at e1 ⊢
  have hz : zAg g σ0 (g.1 + a) := by rw [← hA]; exact zAg_in hs (show (0 : Nat) ≠ 9 by decide)
  refine k H' _ ls hA (hS.put e2 e3 hz) (hH.put (a := a) e2 e3 (fun b i h => zu_ne h) ?_) hl
  unfold zcell
  rw [hs]
  refine ⟨r, hc, t_OB.to (V := updV (fun k => zfv g (zfk ci k) (σ.2.2 a k) (M a (k : Int))) j v) ⟨_, e1, q2, q3, t_set q4 hap hj v⟩ (fun i _ => ?_)⟩
  simp only [updV, zu_row]
  by_cases h : i = j
  · subst h; rw [if_pos rfl, if_pos rfl]; exact (hv _).symm
  · rw [if_neg h, if_neg (by omega)]
theorem zr_puti {idx ci j a : Nat} {x : Int} {own : String} (hd : decode d.2.1 pc = .ok (.putfield idx, 3)) (hL : zLf d.1.cls idx ci j) (hC : zLc ci) (hT : zLt ci j false own .int) (hk : zfk ci j = 0) (hs : zh σ a = (0, ci)) (k : zR g d mm σ0 Q (pc + 3) l st kw σ (zu M a (j : Int) x)) : zR g d mm σ0 Q pc l (zI x :: zA g a :: st) kw σ M :=
  zr_put hd hL hC hT rfl rfl hs (fun F => by rw [hk]; rfl) k
theorem zr_putl {idx ci j a : Nat} {x : Int} {own : String} (hd : decode d.2.1 pc = .ok (.putfield idx, 3)) (hL : zLf d.1.cls idx ci j) (hC : zLc ci) (hT : zLt ci j false own .long) (hk : zfk ci j = 1) (hs : zh σ a = (0, ci)) (k : zR g d mm σ0 Q (pc + 3) l st kw σ (zu M a (j : Int) x)) : zR g d mm σ0 Q pc l (zL x :: zA g a :: st) kw σ M :=
  zr_put hd hL hC hT rfl rfl hs (fun F => by rw [hk]; rfl) k
theorem zr_putz {idx ci j a : Nat} {x : Int} {own : String} (hd : decode d.2.1 pc = .ok (.putfield idx, 3)) (hL : zLf d.1.cls idx ci j) (hC : zLc ci) (hT : zLt ci j false own .boolean) (hk : zfk ci j = 3) (hx : x = 0 ∨ x = 1) (hs : zh σ a = (0, ci)) (k : zR g d mm σ0 Q (pc + 3) l st kw σ (zu M a (j : Int) x)) : zR g d mm σ0 Q pc l (zI x :: zA g a :: st) kw σ M :=
  zr_put hd hL hC hT (by rcases hx with rfl | rfl <;> rfl) (by rcases hx with rfl | rfl <;> rfl) hs (fun F => by rw [hk]; rfl) k
end ZR2
