/-! the law: calls and rows -/
section LB
variable {p : Program} {la : Launch} {e : Env} {R : Room} {s : State} {m : MethodId} {args : Array Value} {below : List Frame} {meth : Method} {c : Code} {H : Heap} {locs : List Loc} {cells slots : Nat} {Q : State → Prop} {g : zG} {d : zD} {mm : Nat × Nat} {σ : zS} {Q' : zP} {pc idx n a ci : Nat} {ls : Array Slot} {l : List (Nat × Value)} {st rest As : List Value} {M : zM}
/-- behind a call -/
theorem ln_back {as : Array Value} (hr : va_Run p la e R s m args below meth c H locs cells slots mm.1 mm.2 (F0 m pc ls st) rest (zQ g σ Q' as) (zAg g σ))
    (k : ∀ v σ' M' H1 locs1, Q' v σ' M' → zH g σ' M' H1 → H.size ≤ H1.size → (∀ q : Nat, q < H.size → ¬ zAg g σ q → H1[q]? = H[q]?) → (∀ q ∈ locs1, q ∈ locs ∨ zAg g σ q.base) → W p la e R s m args below meth c H1 locs1 (cells + mm.1) (slots + mm.2) Q (F0 m (pc + 3) ls (v.toList ++ rest))) : W p la e R s m args below meth c H locs cells slots Q (F0 m pc ls st) := by
  intro T hT X
  obtain ⟨v, st₀, t, T', L, h0, X', hL, e1, e2, ⟨⟨v', σ', M', hv, hq, hH', hAg⟩, hF⟩, goes⟩ := hr T hT X
  cases hv
  obtain ⟨t2, a1, b1⟩ := k v σ' M' T'.heap (locs ++ L) hq (by rw [e1]; exact hH') (by rw [e1, ← h0]; exact hF.1) (fun q h1 h2 => by rw [e1, ← h0]; exact hF.2 q (by rw [h0]; exact h1) h2) (fun q hq => (List.mem_append.mp hq).elim Or.inl (fun h => Or.inr (hL q h))) T' rfl X'
  exact ⟨t2, goes t2 a1, b1⟩
/-- the fixed things of the law -/
def lB (p : Program) (s : State) (m : MethodId) (args : Array Value) (c : Code) : Prop := p.tables.exec = Jvm.exec ∧ c.code = code ∧ c.maxLocals = 4 ∧ s.vm.findClass mL.1.cls = some m.cls ∧ ∀ w ∈ zt, w.before args s = true
theorem ln_pre (hK : va_K g.2.1 zcls (ztys g) s) (hX : zX g s) (hH : zH g σ M H) (hz : g.1 < H.size) (hq : ∀ a : Nat, a < s.heap.size → ¬ g.1 < a → H[a]? = s.heap[a]?) {U : State} (hU : U.heap = H) (hW : s.WarmedH U.vm) : zWd g σ M U :=
  ⟨by rw [hU]; exact hH, va_K.moved hW.alike hK, hX.to hW (fun a h1 h2 => by rw [hU]; exact hq a h1 h2), by rw [hU]; exact hz⟩
theorem ln_callV (B : lB p s m args c) (hR : mL.2.2.2.2.1 ≤ R.frames ∧ mL.2.2.2.2.2 ≤ R.locals) (hK : va_K g.2.1 zcls (ztys g) s) (hX : zX g s) (hH : zH g σ M H) (hz : g.1 < H.size) (hq : ∀ a : Nat, a < s.heap.size → ¬ g.1 < a → H[a]? = s.heap[a]?) (hl : lv_has ls 4 l)
    (hd : decode code pc = .ok (.invokevirtual idx, 3)) (hL : zLv mL d idx n) (hs : zh σ a = (0, ci)) (hci : (zcls[ci]?).map (fun r => r.1) = some d.1.cls) (hst : st = As.reverse ++ zA g a :: rest) (hn : As.length = n) (hw : (rest.map fun v => v.category).sum ≤ 8) (hm : cells + mm.1 ≤ R.cells ∧ slots + mm.2 ≤ R.slots)
    (hc : zC g d mm (zA g a :: As) σ M Q')
    (k : ∀ v σ' M' H1 locs1, Q' v σ' M' → zH g σ' M' H1 → H.size ≤ H1.size → (∀ q : Nat, q < H.size → ¬ zAg g σ q → H1[q]? = H[q]?) → (∀ q ∈ locs1, q ∈ locs ∨ zAg g σ q.base) → W p la e R s m args below meth c H1 locs1 (cells + mm.1) (slots + mm.2) Q (F0 m (pc + 3) ls (v.toList ++ rest))) : W p la e R s m args below meth c H locs cells slots Q (F0 m pc ls st) := by
  obtain ⟨hx, hb, hml, hown, hts⟩ := B
  obtain ⟨⟨w1, w2, hdd, hf1, hf2⟩, w3, w4, w5⟩ := hL
  obtain ⟨r, hr, cell, q1, q2, q3, -⟩ := zc_obj (hH.1 a) hs
  have hG : GoodIn zt (wsV mL.1.cls idx d.1.cls d.1 (zw d)) := fun w hw => by
    rcases List.mem_append.mp hw with h | h
    · simp only [List.mem_cons, List.not_mem_nil, or_false] at h
      rcases h with rfl | rfl | rfl | rfl
      · exact ⟨w3, zgoodOf w3⟩
      · exact ⟨w4, zgoodOf w4⟩
      · exact ⟨w5, zgoodOf w5⟩
      · exact ⟨w1, zgoodOf w1⟩
    · exact zgoodIn w2 w h
  rw [hr] at hci
  refine ln_back (mm := mm) (as := (Value.ref (g.1 + a) :: As).toArray) (va_runV (As := As) (rest := rest) (C := d.1.cls) ⟨hx, hb, hml, hown, hts⟩ (hc la) (cwV n hts hG rfl rfl rfl ⟨rfl, hdd⟩ ⟨Nat.le_trans hf1 hR.1, Nat.le_trans hf2 hR.2⟩) ⟨zblind, ⟨cell, q1, by rw [q3]; rfl, ?_⟩, fun U hU hW => ⟨rfl, ln_pre hK hX hH hz hq hU hW⟩⟩ rfl hn hl.1 hst (lv_room hw) hd hm) k
  rw [q2, ← Option.some.inj hci]; exact (hK.1 ci r hr).2.1
theorem ln_callI (B : lB p s m args c) (hR : mL.2.2.2.2.1 ≤ R.frames ∧ mL.2.2.2.2.2 ≤ R.locals) (hK : va_K g.2.1 zcls (ztys g) s) (hX : zX g s) (hH : zH g σ M H) (hz : g.1 < H.size) (hq : ∀ a : Nat, a < s.heap.size → ¬ g.1 < a → H[a]? = s.heap[a]?) (hl : lv_has ls 4 l)
    (hd : decode code pc = .ok (.invokespecial idx, 3)) (hL : zLi mL d idx n) (hst : st = As.reverse ++ zA g a :: rest) (hn : As.length = n) (hw : (rest.map fun v => v.category).sum ≤ 8) (hm : cells + mm.1 ≤ R.cells ∧ slots + mm.2 ≤ R.slots)
    (hc : zC g d mm (zA g a :: As) σ M Q')
    (k : ∀ v σ' M' H1 locs1, Q' v σ' M' → zH g σ' M' H1 → H.size ≤ H1.size → (∀ q : Nat, q < H.size → ¬ zAg g σ q → H1[q]? = H[q]?) → (∀ q ∈ locs1, q ∈ locs ∨ zAg g σ q.base) → W p la e R s m args below meth c H1 locs1 (cells + mm.1) (slots + mm.2) Q (F0 m (pc + 3) ls (v.toList ++ rest))) : W p la e R s m args below meth c H locs cells slots Q (F0 m pc ls st) := by
  obtain ⟨hx, hb, hml, hown, hts⟩ := B
  obtain ⟨⟨w1, w2, hdd, hf1, hf2⟩, w3, w4, w5, w6⟩ := hL
  have hc := hc la
  have hG := zgoodIn w2
  exact ln_back (mm := mm) (as := (Value.ref (g.1 + a) :: As).toArray) (va_runI (As := As) (rest := rest) ⟨hx, hb, hml, hown, hts⟩ hc (cwI n hts hG (by unfold zw; rw [w6]) rfl rfl (hts _ w1) (hts _ w3) (hts _ w4) w5 hdd ⟨Nat.le_trans hf1 hR.1, Nat.le_trans hf2 hR.2⟩) ⟨zblind, fun U hU hW => ⟨rfl, ln_pre hK hX hH hz hq hU hW⟩⟩ rfl hn hl.1 hst (lv_room hw) hd hm) k
theorem ln_new (B : lB p s m args c) (hK : va_K g.2.1 zcls (ztys g) s) (hH : zH g σ M H) (hd : decode code pc = .ok (.new idx, 3)) (hL : zLn mL idx ci n) (ho : σ.1 = true) (hm : cells + 1 ≤ R.cells ∧ slots + n ≤ R.slots)
    (k : ∀ H1, zH g (zsn σ (0, ci)) (zrw M (σ.2.1.length + 1) (fun _ => 0)) H1 → H.size ≤ H1.size → (∀ q : Nat, q < H.size → H1[q]? = H[q]?) → W p la e R s m args below meth c H1 locs (cells + 1) (slots + n) Q (F0 m (pc + 3) ls (zA g (σ.2.1.length + 1) :: st))) : W p la e R s m args below meth c H locs cells slots Q (F0 m pc ls st) := by
  obtain ⟨hx, hb, hml, hown, hts⟩ := B
  obtain ⟨r, hc, rfl, hin, ⟨ty0, hty, hdf⟩, w1, w2, w3⟩ := hL
  have hKn := hK.1 ci _ hc
  have hz := hH.2 ho
  refine W.newcK hx hb hown (hts _ w1) (hts _ w2) (hts _ w3) rfl hd hm.1 hm.2 hKn.2.1 rfl fun H1 kC hkC e1 z1 o1 => ?_
  have o2 := o1
  rw [hz] at e1 z1 o1
  have hb := u_born ty0 hts hin hKn hkC e1 hty
  have e : Value.ref H.size = zA g (σ.2.1.length + 1) := by rw [hz]; rfl
  rw [e]
  refine k H1 (zsn_H hH ho z1 o1 ?_) (by omega) o2
  unfold zcell
  rw [zsn_new]
  refine ⟨r, hc, t_OB.to hb (fun k hk => ?_)⟩
  rw [hdf g k hk, zrw_at]
  simp [zsn]
end LB
theorem z1_sz {g : zG} {o : Bool} {M : zM} {H : Heap} (h : zH g (z1 o) M H) : g.1 + 149 < H.size := by
  have e := zc_arr (kd := 1) (n := 96) (h.1 149) rfl (by decide) (by decide)
  exact (Array.getElem?_eq_some_iff.mp e).1
theorem z2_sz {g : zG} {o : Bool} {M : zM} {H : Heap} (h : zH g (z2 o) M H) : g.1 + 25 < H.size := by
  have e := zc_arr (kd := 1) (n := 4800) (h.1 25) rfl (by decide) (by decide)
  exact (Array.getElem?_eq_some_iff.mp e).1
theorem z1_ln (o : Bool) : (z1 o).2.1.length = 149 := z1_len.1
theorem z2_ln (o : Bool) : (z2 o).2.1.length = 25 := z2_len.1
