def zrw (M : zM) (b : Nat) (f : Int → Int) : zM := fun c j => if c = b then f j else M c j
theorem zrw_ne {M : zM} {b c : Nat} {f : Int → Int} (h : c ≠ b) (j : Int) : zrw M b f c j = M c j := by simp [zrw, h]
theorem zrw_at (M : zM) (b : Nat) (f : Int → Int) (j : Int) : zrw M b f b j = f j := by simp [zrw]
def zcpy (f h : Int → Int) (sp dp n : Int) : Int → Int := fun k => if dp ≤ k ∧ k < dp + n then f (sp + (k - dp)) else h k
def zLy (d : zD) (idx : Nat) : Prop := Cond.methodLink d.1.cls idx arraycopyName ∈ zt ∧ Cond.native arraycopyName ∈ zt ∧ Cond.static arraycopyName ∈ zt ∧ Cond.initialized "java/lang/System" ∈ zt ∧ 1 ≤ d.2.2.2.2.1 ∧ 8 + (nativeFrameWords "java/lang/System" "arraycopy" 5 + 11) ≤ d.2.2.2.2.2
theorem znlt {z : Int} (hz : zin z) (h0 : 0 ≤ z) : ¬ Int32.ofInt z < 0 := fun h => by
  have h' : Int32.ofInt z < Int32.ofInt 0 := h
  rw [zi_lt hz zin0] at h'; omega
section ZR5
variable {g : zG} {d d' : zD} {mm mm' kw : Nat × Nat} {σ0 σ : zS} {Q Q' : zP} {pc pc' : Nat} {l l' : List (Nat × Value)} {st st' : List Value} {M : zM}
theorem zr_copy {idx a b n0 n1 : Nat} {sp dp n : Int} (hd : decode d.2.1 pc = .ok (.invokestatic idx, 3)) (hL : zLy d idx) (ha : zh σ a = (1, n0)) (hb : zh σ b = (1, n1)) (h1 : 0 ≤ sp) (h2 : 0 ≤ dp) (h3 : 0 ≤ n) (h4 : sp + n ≤ n0) (h5 : dp + n ≤ n1) (hn : n0 ≤ 100000 ∧ n1 ≤ 100000) (hw : (st.map fun v => v.category).sum ≤ 8)
    (k : zR g d mm σ0 Q (pc + 3) l st kw σ (zrw M b (zcpy (M a) (M b) sp dp n))) : zR g d mm σ0 Q pc l (zI n :: zI dp :: zA g b :: zI sp :: zA g a :: st) kw σ M := by
  intro la p e s m args below meth c B H locs ls hA hS hH hl
  have k := k la p e s m args below meth c B
  obtain ⟨w1, w2, w3, w4, w5, w6⟩ := hL
  have hts := B.2.2.2.2.2.2.1
  have hK := B.2.2.2.2.2.2.2.2.1
  have z1 : zin sp := ⟨by omega, by omega⟩
  have z2 : zin dp := ⟨by omega, by omega⟩
  have z3 : zin n := ⟨by omega, by omega⟩
  have c1 := zi_nn z1 h1
  have c2 := zi_nn z2 h2
  have c3 := zi_nn z3 h3
  intro T hT X
  have hc0 : H[g.1 + a]? = some (vp_cell (g.2.2.1 1) (n0, .inl (fun j => Int32.ofInt (M a (j : Int))))) := zc_arr (hH.1 a) ha (by decide) (by decide)
  have hc1 : H[g.1 + b]? = some (vp_cell (g.2.2.1 1) (n1, .inl (fun j => Int32.ofInt (M b (j : Int))))) := zc_arr (hH.1 b) hb (by decide) (by decide)
  obtain ⟨-, k0, hk0, cm0, hkk0⟩ := (hK.2 0 _ rfl).1 n0 (fun j => .int (Int32.ofInt (M a (j : Int))))
  obtain ⟨-, k1, hk1, cm1, hkk1⟩ := (hK.2 0 _ rfl).1 n1 (fun j => .int (Int32.ofInt (M b (j : Int))))
  obtain ⟨vm', X', step⟩ := X.arraycopy B.1 B.2.2.2.2.2.1 (hts _ w1) (hts _ w2) (hts _ w3) (hts _ w4) (src := g.1 + a) (dst := g.1 + b) (cs := vp_cell (g.2.2.1 1) (n0, .inl (fun j => Int32.ofInt (M a (j : Int))))) (cd := vp_cell (g.2.2.1 1) (n1, .inl (fun j => Int32.ofInt (M b (j : Int))))) (srcPos := Int32.ofInt sp) (destPos := Int32.ofInt dp) (n := Int32.ofInt n) (by rw [hT]; exact hc0) (by rw [hT]; exact hc1)
    (fun _ h => by cases h) (fun _ h => by cases h) (fun h => by cases h) (fun h => by cases h) hk0 hk1 hkk0 hkk1 (by simp [refKind]) (znlt z1 h1) (znlt z2 h2) (znlt z3 h3)
    (by rw [zi_to z1, zi_to z3]; show ¬ _ > ((arrV _ n0 _).slots.size : Int); rw [arrV_size]; omega)
    (by rw [zi_to z2, zi_to z3]; show ¬ _ > ((arrV _ n1 _).slots.size : Int); rw [arrV_size]; omega)
    (fun vm₁ _ i hi => by
      have e : (vp_cell (g.2.2.1 1) (n0, .inl (fun j => Int32.ofInt (M a (j : Int))))).slots.getD ((Int32.ofInt sp).toNatClampNeg + i) .null = .int (Int32.ofInt (M a (((Int32.ofInt sp).toNatClampNeg + i : Nat) : Int))) := by
        show (arrV (g.2.2.1 1) n0 (fun j => .int (Int32.ofInt (M a (j : Int))))).slots.getD _ _ = _
        rw [Array.getD_eq_getD_getElem?, arrV_read _ _ (by omega)]
        rfl
      refine ⟨?_, ?_⟩
      · rw [e]; rfl
      · rw [e]; exact trivial)
    (g := F0 m pc ls (.int (Int32.ofInt n) :: .int (Int32.ofInt dp) :: .ref (g.1 + b) :: .int (Int32.ofInt sp) :: .ref (g.1 + a) :: st)) rfl (by show ls.size = _; rw [hl.1, B.2.2.1]) (rest := st) rfl (by rw [B.2.1]; exact hd) w5 (by show 2 * 0 + _ + _ ≤ d.2.2.2.2.2; omega)
  have e1 : copied (vp_cell (g.2.2.1 1) (n0, .inl (fun j => Int32.ofInt (M a (j : Int))))) (vp_cell (g.2.2.1 1) (n1, .inl (fun j => Int32.ofInt (M b (j : Int))))) (Int32.ofInt sp) (Int32.ofInt dp) (Int32.ofInt n) = vp_cell (g.2.2.1 1) (n1, .inl (va_cpy (fun j => Int32.ofInt (M a (j : Int))) (fun j => Int32.ofInt (M b (j : Int))) (Int32.ofInt sp).toNatClampNeg (Int32.ofInt dp).toNatClampNeg (Int32.ofInt n).toNatClampNeg)) := va_copied (fun z => .int z) (g.2.2.1 1) (g.2.2.1 1) (fun j => Int32.ofInt (M a (j : Int))) (fun j => Int32.ofInt (M b (j : Int))) (show (Int32.ofInt sp).toNatClampNeg + (Int32.ofInt n).toNatClampNeg ≤ n0 by omega)
  rw [e1, c1, c2, c3] at X' step
  have hlt : g.1 + b < H.size := (Array.getElem?_eq_some_iff.mp hc1).1
  have hz : zAg g σ0 (g.1 + b) := by rw [← hA]; exact zAg_in hb (show (1 : Nat) ≠ 9 by decide)
  have ee : vp_cell (g.2.2.1 1) (n1, .inl (va_cpy (fun j => Int32.ofInt (M a (j : Int))) (fun j => Int32.ofInt (M b (j : Int))) sp.toNat dp.toNat n.toNat)) = arrV (g.2.2.1 1) n1 (fun j => zev g 1 (zrw M b (zcpy (M a) (M b) sp dp n) b (j : Int))) := by
    rw [vp_cell_i]
    congr 1
    funext j
    rw [zrw_at]
    simp only [va_cpy, zcpy]
    by_cases hj : dp.toNat ≤ j ∧ j < dp.toNat + n.toNat
    · rw [if_pos hj, if_pos (by omega)]
      show Value.int (Int32.ofInt (M a ((sp.toNat + (j - dp.toNat) : Nat) : Int))) = zI (M a (sp + ((j : Int) - dp)))
      rw [show ((sp.toNat + (j - dp.toNat) : Nat) : Int) = sp + ((j : Int) - dp) by omega]; rfl
    · rw [if_neg hj, if_neg (by omega)]; rfl
  rw [ee] at X' step
  have oq : ∀ q : Nat, q ≠ g.1 + b → (H.setIfInBounds (g.1 + b) (arrV (g.2.2.1 1) n1 (fun j => zev g 1 (zrw M b (zcpy (M a) (M b) sp dp n) b (j : Int)))))[q]? = H[q]? := fun q hq => by simp [Array.getElem?_setIfInBounds, Ne.symm hq]
  have hsz : (H.setIfInBounds (g.1 + b) (arrV (g.2.2.1 1) n1 (fun j => zev g 1 (zrw M b (zcpy (M a) (M b) sp dp n) b (j : Int))))).size = H.size := by simp
  have hheap : ((T.setVm vm').setCell (g.1 + b) (arrV (g.2.2.1 1) n1 (fun j => zev g 1 (zrw M b (zcpy (M a) (M b) sp dp n) b (j : Int))))).heap = H.setIfInBounds (g.1 + b) (arrV (g.2.2.1 1) n1 (fun j => zev g 1 (zrw M b (zcpy (M a) (M b) sp dp n) b (j : Int)))) := by rw [← hT]; rfl
  obtain ⟨t, a1, b1⟩ := k _ _ ls hA ⟨by rw [hsz]; exact hS.1, fun q g1 g2 => by
      rw [oq q (fun e => g2 (by rw [e]; exact hz))]
      exact hS.2.1 q g1 g2, fun q hq => by
      rcases List.mem_append.mp hq with h | h
      · exact hS.2.2 q h
      · obtain ⟨z, -, hz'⟩ := List.mem_map.mp h
        rw [← hz']
        exact hz⟩ (hH.put (a := b) hsz oq (fun c j h => zrw_ne h j) (by unfold zcell; rw [hb]; simp only [show (1 : Nat) ≠ 0 by decide, show (1 : Nat) ≠ 9 by decide, if_false]; simp [Array.getElem?_setIfInBounds, hlt])) hl _ hheap X'
  exact ⟨t, step t a1, b1⟩
theorem zr_aast {a n v ci : Nat} {i : Int} (hd : decode d.2.1 pc = .ok (.aastore, 1)) (hs : zh σ a = (4, n)) (hn : n ≤ 100000) (hi : 0 ≤ i ∧ i < n) (hv : zh σ v = (0, 5)) (k : zR g d mm σ0 Q (pc + 1) l st kw σ (zu M a i v)) : zR g d mm σ0 Q pc l (zA g v :: zI i :: zA g a :: st) kw σ M := by
  intro la p e s m args below meth c B H locs ls hA hS hH hl
  have k := k la p e s m args below meth c B
  have hc := zc_arr (hH.1 a) hs (by decide) (by decide)
  have hin := zi_in hi.1 hi.2 hn
  have he : (Int32.ofInt i).toNatClampNeg = i.toNat := zi_nn ⟨by omega, by omega⟩ hi.1
  have hz : zAg g σ0 (g.1 + a) := by rw [← hA]; exact zAg_in hs (show (4 : Nat) ≠ 9 by decide)
  have hK := B.2.2.2.2.2.2.2.2.1
  obtain ⟨r', hr', cellV, g1, g2, g3, -⟩ := zc_obj (hH.1 v) hv
  have hcls := (hK.1 5 _ hr').2
  cases hr'
  obtain ⟨kA, comp, k1, k2, k3, -⟩ := (hK.2 3 _ rfl).2
  have hcomp : comp = g.2.1.1 5 := Option.some.inj (k3.symm.trans hcls.1)
  subst hcomp
  obtain ⟨kC, hkC, -⟩ := hcls.2
  have hv0 : v ≠ 0 := by have := (zh_le hv (show (0 : Nat) ≠ 9 by decide)).1; omega
  refine W.aast B.1 B.2.1 hc (fun q h => by cases h) (fun h => by cases h) k1 k2 rfl hkC ⟨fun q => hin (Or.inl q), by rw [arrV_size]; exact Nat.not_le.mp fun q => hin (Or.inr q)⟩ g1 (fun q h => by rw [g3] at h; cases h) (by rw [g2]; exact hkC) (by rw [g2]; exact va_assign hcls) rfl rfl hd fun H1 e z oq => ?_
  refine k H1 _ ls hA (hS.put z oq hz) (hH.put (a := a) z oq (fun b j h => zu_ne h) (zc_ast hi.1 hv0 hs ?_)) hl
  rw [e, arrV_store, he]; rfl
/-! making: an open signature -/
def zsn (σ : zS) (q : Nat × Nat) : zS := (σ.1, σ.2.1 ++ [q], fun a k => if a = σ.2.1.length + 1 then 0 else σ.2.2 a k)
def zsf (σ : zS) (a j b : Nat) : zS := (σ.1, σ.2.1, fun a' j' => if a' = a ∧ j' = j then b else σ.2.2 a' j')
theorem zsn_old {σ : zS} {q : Nat × Nat} {a : Nat} (h : a ≤ σ.2.1.length) : zh (zsn σ q) a = zh σ a := by
  cases a with
  | zero => rfl
  | succ k => show (σ.2.1 ++ [q]).getD k (9, 0) = σ.2.1.getD k (9, 0); simp [List.getD_eq_getElem?_getD, List.getElem?_append_left (show k < σ.2.1.length by omega)]
theorem zsn_new {σ : zS} {q : Nat × Nat} : zh (zsn σ q) (σ.2.1.length + 1) = q := by
  show (σ.2.1 ++ [q]).getD σ.2.1.length (9, 0) = q; simp [List.getD_eq_getElem?_getD]
theorem zsn_big {σ : zS} {q : Nat × Nat} {a : Nat} (h : σ.2.1.length + 1 < a) : zh (zsn σ q) a = (9, 0) := by
  cases a with
  | zero => rfl
  | succ k => show (σ.2.1 ++ [q]).getD k (9, 0) = _; simp [List.getD_eq_getElem?_getD, List.getElem?_eq_none (show (σ.2.1 ++ [q]).length ≤ k by simp; omega)]
theorem zsn_H {g : zG} {σ : zS} {M : zM} {H H1 : Heap} {q : Nat × Nat} (h : zH g σ M H) (ho : σ.1 = true) (hz : H1.size = g.1 + σ.2.1.length + 1 + 1) (hq : ∀ a : Nat, a < g.1 + σ.2.1.length + 1 → H1[a]? = H[a]?) (hn : zcell g (zsn σ q) (zrw M (σ.2.1.length + 1) (fun _ => 0)) (σ.2.1.length + 1) H1) : zH g (zsn σ q) (zrw M (σ.2.1.length + 1) (fun _ => 0)) H1 := by
  refine ⟨fun a => ?_, fun _ => by rw [hz]; show _ = g.1 + (σ.2.1 ++ [q]).length + 1; simp; omega⟩
  rcases Nat.lt_trichotomy a (σ.2.1.length + 1) with ha | ha | ha
  · have hc := zc_kept (M' := zrw M (σ.2.1.length + 1) (fun _ => 0)) (h.1 a) (hq _ (by omega)) (fun j => zrw_ne (by omega) j)
    unfold zcell at hc ⊢
    rw [zsn_old (by omega)]
    simp only [zsn, show ¬ a = σ.2.1.length + 1 by omega, if_false]
    exact hc
  · subst ha; exact hn
  · unfold zcell; rw [zsn_big ha]; simp
theorem zsn_A {g : zG} {σ σ0 : zS} {q : Nat × Nat} (ho : σ.1 = true) (hA : zAg g σ = zAg g σ0) : zAg g (zsn σ q) = zAg g σ0 := by
  rw [← hA]; funext a; simp [zAg, zsn, ho]
theorem zS_new {g : zG} {σ0 : zS} {s : State} {H H1 : Heap} {locs : List Loc} (hS : va_S (zAg g σ0) s.heap H locs) (hz : H.size ≤ H1.size) (hq : ∀ a : Nat, a < H.size → H1[a]? = H[a]?) : va_S (zAg g σ0) s.heap H1 locs :=
  ⟨Nat.le_trans hS.1 hz, fun q h1 h2 => (hq q (Nat.lt_of_lt_of_le h1 hS.1)).trans (hS.2.1 q h1 h2), hS.2.2⟩
def zLn (d : zD) (idx ci n : Nat) : Prop := ∃ r : vw_C, zcls[ci]? = some r ∧ r.2.2 = n ∧ (∀ w ∈ u_ws r.1 r.2.1 r.2.2, w ∈ zt) ∧ (∃ ty0 : Nat → FieldType, (∀ k, k < r.2.2 → parseFieldDescriptor (r.2.1 k).2.2.1 = some (ty0 k)) ∧ ∀ (g : zG) (k : Nat), k < r.2.2 → defaultValue (ty0 k) = zfv g (zfk ci k) 0 0) ∧ Cond.classLink d.1.cls idx r.1 ∈ zt ∧ Cond.instantiable r.1 r.2.2 ∈ zt ∧ Cond.initialized r.1 ∈ zt
theorem zr_new {idx ci n : Nat} (hd : decode d.2.1 pc = .ok (.new idx, 3)) (hL : zLn d idx ci n) (ho : σ.1 = true) (hk : kw.1 + 1 ≤ mm.1 ∧ kw.2 + n ≤ mm.2)
    (k : zR g d mm σ0 Q (pc + 3) l (zA g (σ.2.1.length + 1) :: st) (kw.1 + 1, kw.2 + n) (zsn σ (0, ci)) (zrw M (σ.2.1.length + 1) (fun _ => 0))) : zR g d mm σ0 Q pc l st kw σ M := by
  intro la p e s m args below meth c B H locs ls hA hS hH hl
  have k := k la p e s m args below meth c B
  obtain ⟨r, hc, rfl, hin, ⟨ty0, hty, hdf⟩, w1, w2, w3⟩ := hL
  have hts := B.2.2.2.2.2.2.1
  have hKn := B.2.2.2.2.2.2.2.2.1.1 ci _ hc
  have hz := hH.2 ho
  refine W.newcK B.1 B.2.1 B.2.2.2.2.2.1 (hts _ w1) (hts _ w2) (hts _ w3) rfl hd hk.1 hk.2 hKn.2.1 rfl fun H1 kC hkC e1 z1 o1 => ?_
  rw [hz] at e1 z1 o1
  have hb := u_born ty0 hts hin hKn hkC e1 hty
  have e : Value.ref H.size = zA g (σ.2.1.length + 1) := by rw [hz]; rfl
  rw [e]
  refine k H1 locs ls (zsn_A ho hA) (zS_new hS (by omega) (by rw [hz]; exact o1)) (zsn_H hH ho z1 o1 ?_) hl
  unfold zcell
  rw [zsn_new]
  refine ⟨r, hc, t_OB.to hb (fun k hk => ?_)⟩
  rw [hdf g k hk, zrw_at]
  simp [zsn]
theorem zr_newa {at_ : ArrayType} {kd : Nat} {n : Int} (hd : decode d.2.1 pc = .ok (.newarray at_, 2)) (hkd : (at_ = .int ∧ kd = 1) ∨ (at_ = .boolean ∧ kd = 2) ∨ (at_ = .long ∧ kd = 3)) (hw : Cond.arrayClass (newarray.typeOf at_) ∈ zt) (ho : σ.1 = true) (hn : 0 ≤ n ∧ n ≤ 100000) (hk : kw.1 + 1 ≤ mm.1 ∧ kw.2 + n.toNat ≤ mm.2)
    (k : zR g d mm σ0 Q (pc + 2) l (zA g (σ.2.1.length + 1) :: st) (kw.1 + 1, kw.2 + n.toNat) (zsn σ (kd, n.toNat)) (zrw M (σ.2.1.length + 1) (fun _ => 0))) : zR g d mm σ0 Q pc l (zI n :: st) kw σ M := by
  intro la p e s m args below meth c B H locs ls hA hS hH hl
  have k := k la p e s m args below meth c B
  have hts := B.2.2.2.2.2.2.1
  have hK := B.2.2.2.2.2.2.2.2.1
  have hz := hH.2 ho
  have zn : zin n := ⟨by omega, by omega⟩
  refine va_newaK B.1 B.2.1 (hts _ hw) rfl hd rfl (N := n.toNat) (znlt zn hn.1) (zi_nn zn hn.1) (by rcases hkd with ⟨rfl, -⟩ | ⟨rfl, -⟩ | ⟨rfl, -⟩ <;> simp [componentBytes, newarray.typeOf] <;> omega) hk.1 hk.2 hz fun H1 cA e1 z1 o1 hAr hNm => ?_
  have hcA : cA = g.2.2.1 kd := by
    rcases hkd with ⟨rfl, rfl⟩ | ⟨rfl, rfl⟩ | ⟨rfl, rfl⟩
    · exact Option.some.inj (hNm.symm.trans (hK.2 0 _ rfl).2)
    · exact Option.some.inj (hNm.symm.trans (hK.2 1 _ rfl).2)
    · exact Option.some.inj (hNm.symm.trans (hK.2 2 _ rfl).2)
  refine k H1 locs ls (zsn_A ho hA) (zS_new hS (by omega) (by rw [hz]; exact o1)) (zsn_H hH ho z1 o1 ?_) hl
  subst hcA
  unfold zcell
  rw [zsn_new]
  rcases hkd with ⟨rfl, rfl⟩ | ⟨rfl, rfl⟩ | ⟨rfl, rfl⟩ <;> (simp only [show (1 : Nat) ≠ 0 by decide, show (1 : Nat) ≠ 9 by decide, show (2 : Nat) ≠ 0 by decide, show (2 : Nat) ≠ 9 by decide, show (3 : Nat) ≠ 0 by decide, show (3 : Nat) ≠ 9 by decide, if_false]; rw [show g.1 + (σ.2.1.length + 1) = g.1 + σ.2.1.length + 1 by omega, e1]; congr 2; funext j; rw [zrw_at]; rfl)
theorem zr_anew {idx : Nat} {n : Int} (hd : decode d.2.1 pc = .ok (.anewarray idx, 3)) (hw : Cond.classLink d.1.cls idx "SandMarch$Sand" ∈ zt) (ho : σ.1 = true) (hn : 0 ≤ n ∧ n ≤ 100000) (hk : kw.1 + 1 ≤ mm.1 ∧ kw.2 + n.toNat ≤ mm.2)
    (k : zR g d mm σ0 Q (pc + 3) l (zA g (σ.2.1.length + 1) :: st) (kw.1 + 1, kw.2 + n.toNat) (zsn σ (4, n.toNat)) (zrw M (σ.2.1.length + 1) (fun _ => 0))) : zR g d mm σ0 Q pc l (zI n :: st) kw σ M := by
  intro la p e s m args below meth c B H locs ls hA hS hH hl
  have k := k la p e s m args below meth c B
  have hts := B.2.2.2.2.2.2.1
  have hK := B.2.2.2.2.2.2.2.2.1
  have hX := B.2.2.2.2.2.2.2.2.2.1
  have hz := hH.2 ho
  have zn : zin n := ⟨by omega, by omega⟩
  have hc := zi_nn zn hn.1
  refine W.anew B.1 B.2.1 B.2.2.2.2.2.1 (hts _ hw) (hX.2.2.2.2.2.2.2.2.1.use) rfl hd rfl (znlt zn hn.1) (by rw [hc]; omega) hk.1 (by rw [hc]; exact hk.2) fun cA kA comp h1 h2 h3 h4 => ?_
  obtain ⟨kA', comp', -, -, -, k4⟩ := (hK.2 3 _ rfl).2
  have hcA : cA = g.2.2.1 4 := Option.some.inj (h1.symm.trans k4)
  rw [hc, hz]
  have o1 : ∀ q : Nat, q < g.1 + σ.2.1.length + 1 → (H.push { cls := cA, slots := Array.replicate n.toNat Value.null, vm := .none })[q]? = H[q]? := fun q hq => by rw [Array.getElem?_push, if_neg (by omega)]
  refine k _ locs ls (zsn_A ho hA) (zS_new hS (by simp) (by rw [hz]; exact o1)) (zsn_H hH ho (by simp [hz]) o1 ?_) hl
  unfold zcell
  rw [zsn_new]
  simp only [show (4 : Nat) ≠ 0 by decide, show (4 : Nat) ≠ 9 by decide, if_false]
  rw [show g.1 + (σ.2.1.length + 1) = H.size by omega, Array.getElem?_push, if_pos rfl, hcA, arrV_new]
  congr 2
  funext j
  rw [zrw_at]; rfl
/-- a final reference of an object under way -/
theorem zr_putr {idx ci j a b : Nat} {ty : FieldType} (hd : decode d.2.1 pc = .ok (.putfield idx, 3)) (hL : zLf d.1.cls idx ci j) (hC : zLc ci) (hT : zLt ci j true d.1.cls ty) (hi : d.1.name = "<init>") (hn : narrow ty (zA g b) = zA g b) (hf : fits ty (zA g b) = true) (hk : zfk ci j = 2) (hs : zh σ a = (0, ci)) (h0 : b ≠ 0) (k : zR g d mm σ0 Q (pc + 3) l st kw (zsf σ a j b) M) : zR g d mm σ0 Q pc l (zA g b :: zA g a :: st) kw σ M := by
  intro la p e s m args below meth c B H locs ls hA hS hH hl
  have k := k la p e s m args below meth c B
  obtain ⟨hx, hb, -, -, -, hown, hts, hnm, hK, -⟩ := B
  obtain ⟨r, hc, hj, hin, hlink⟩ := hL
  obtain ⟨r', hc', cell, q1, q2, q3, q4⟩ := zc_obj (hH.1 a) hs
  cases hc.symm.trans hc'
  obtain ⟨r', hc', ⟨ty0, hty⟩, hnn⟩ := hC
  cases hc.symm.trans hc'
  obtain ⟨r', hc', hfin, hdecl, hpd⟩ := hT
  cases hc.symm.trans hc'
  have hap := va_apart (own := d.1.cls) hts hin ty0 hty hnn hK hc
  obtain ⟨hSl, hfc, kC, hkC, hkind⟩ := hK.1 ci _ hc
  obtain ⟨cf, kf, fi, f, hi', hsl⟩ := hSl j hj
  have hlay := hts _ (hin _ (u_in_lay hj))
  unfold u_lay at hlay
  rw [if_pos hfin] at hlay
  have hst := (u_facts hfc hkC (u_lays hts hin hj) hi').1
  have hcf : m.cls = cf := by
    obtain ⟨_, _, c', _, _, _, -, -, hf', -, -, -, hown2, -⟩ := Cond.laysFinal_spec hlay
    have e1 : c' = cf := by have := hi'.symm.trans hf'; simp at this; exact this.1.symm
    rw [hdecl] at hown2
    rw [← e1]; exact Option.some.inj (hown.symm.trans hown2)
  have h6 := u_fits hfc hkC hkind (Or.inr hlay) hi' hpd hn hf
  refine W.putFinK hx hb hown (hts _ hlink) hi' hst hcf (hnm.trans hi) (by rw [q2]; exact h6) q1 q3 (by rw [hsl]; exact k2_hasslot (q4 j hj)) rfl rfl hd fun H' e1 e2 e3 => ?_
  rw [hsl] at e1 ⊢
  have hz : zAg g σ0 (g.1 + a) := by rw [← hA]; exact zAg_in hs (show (0 : Nat) ≠ 9 by decide)
  refine k H' _ ls hA (hS.put e2 e3 hz) ⟨fun a' => ?_, fun ho => e2.trans (hH.2 ho)⟩ hl
  by_cases ha : a' = a
  · subst ha
    unfold zcell
    rw [show zh (zsf σ a' j b) a' = (0, ci) from hs]
    refine ⟨r, hc, t_OB.to (V := updV (fun k => zfv g (zfk ci k) (σ.2.2 a' k) (M a' (k : Int))) j (zA g b)) ⟨_, e1, q2, q3, t_set q4 hap hj _⟩ (fun i _ => ?_)⟩
    simp only [updV, zsf, true_and]
    split
    · rename_i h; subst h; rw [hk]; show zA g b = zN g b; simp [zN, zA, h0]
    · rfl
  · have hc' := zc_kept (M' := M) (hH.1 a') (e3 (g.1 + a') (fun h => ha (Nat.add_left_cancel h))) (fun _ => rfl)
    unfold zcell at hc' ⊢
    rw [show zh (zsf σ a j b) a' = zh σ a' from rfl]
    simp only [zsf, ha, false_and, if_false]
    exact hc'
theorem zr_oinit {idx a : Nat} (hd : decode d.2.1 pc = .ok (.invokespecial idx, 3)) (hL : Cond.methodLink d.1.cls idx objectInit ∈ zt ∧ Cond.instanceMethod objectInit ∈ zt ∧ Cond.code objectInit ⟨#[0xb1]⟩ 1 none ∈ zt ∧ 1 ≤ d.2.2.2.2.1 ∧ 20 ≤ d.2.2.2.2.2) (hw : (st.map fun v => v.category).sum ≤ 8) (k : zR g d mm σ0 Q (pc + 3) l st kw σ M) : zR g d mm σ0 Q pc l (zA g a :: st) kw σ M := by
  intro la p e s m args below meth c B H locs ls hA hS hH hl
  have kk := k la p e s m args below meth c B H locs ls hA hS hH hl
  have hts := B.2.2.2.2.2.2.1
  exact W.objInit B.1 B.2.1 B.2.2.2.2.2.1 (hts _ hL.1) (hts _ hL.2.1) (hts _ hL.2.2.1) rfl (by show ls.size = _; rw [hl.1, B.2.2.1]) rfl hd hL.2.2.2.1 (by show 2 * 0 + _ + 12 ≤ d.2.2.2.2.2; have := hL.2.2.2.2; omega) kk
theorem zr_callIN {idx a n : Nat} {As rest : List Value} (hd : decode d.2.1 pc = .ok (.invokespecial idx, 3)) (hL : zLb d d' n) (hN : (d.1.cls, idx, d'.1) ∈ znm) (hI : Cond.instanceMethod d'.1 ∈ zt ∧ d'.1.name = "<init>" ∧ d'.2.2.2.1 = none) (hst : st = As.reverse ++ zA g a :: rest) (hn : As.length = n) (hw : (rest.map fun v => v.category).sum ≤ 8) (hm : kw.1 + mm'.1 ≤ mm.1 ∧ kw.2 + mm'.2 ≤ mm.2)
    (hc : zC g d' mm' (zA g a :: As) σ M Q') (k : ∀ v σ' M', Q' v σ' M' → zR g d mm σ0 Q (pc + 3) l (v.toList ++ rest) (kw.1 + mm'.1, kw.2 + mm'.2) σ' M') : zR g d mm σ0 Q pc l st kw σ M := by
  intro la p e s m args below meth c B H locs ls hA hS hH hl
  have B' := B
  obtain ⟨hx, hb, hml, -, -, hown, hts, -, hK, hX, -⟩ := B'
  obtain ⟨w1, w2, hdd, hf1, hf2⟩ := hL
  exact zback (mm' := mm') (as := (Value.ref (g.1 + a) :: As).toArray) B hA hS hl (va_runIN (As := As) (rest := rest) ⟨hx, hb, hml, hown, hts⟩ (hc la) ⟨va_cnB n hts (zgoodIn w2) (by unfold zw; rw [hI.2.2]) rfl rfl (hX.2.2.2.2.2.2.2.2.2.1 _ hN) (hts _ w1) hdd ⟨hf1, hf2⟩, hI.2.1, hts _ hI.1⟩ ⟨zblind, fun U hU hW => ⟨rfl, zpre B hS hH hU hW⟩⟩ rfl hn hl.1 hst (lv_room hw) hd hm) k
end ZR5
