theorem zgood : zt.all goodWord = true := List.all_eq_true.mpr fun w h => (List.mem_filter.mp h).2
theorem zgoodIn {d : zD} (h : Cond.code d.1 d.2.1 d.2.2.1 d.2.2.2.1 ∈ zt) : GoodIn zt (zw d) := fun w hw => by
  have hm : w ∈ zt := (List.mem_cons.mp hw).elim (fun e => e ▸ h) id
  exact ⟨hm, good_of_word (List.all_eq_true.mp zgood w hm)⟩
theorem zgoodOf {w : Cond} (h : w ∈ zt) : (w.onTables && w.keeps) = true ∨ ∃ ty, w = .arrayClass ty := good_of_word (List.all_eq_true.mp zgood w h)
theorem zX.same {g : zG} {u U : State} (hv : U.vm = u.vm) (hh : U.heap = u.heap) (h : zX g u) : zX g U := by
  obtain ⟨h1, h2, h3, h4, h5, h6, h7, h8, h9, h10, h11⟩ := h
  have ha : u.vm.Alike U.vm := by rw [hv]; exact Vm.Alike.refl _
  unfold zX
  rw [hh]
  exact ⟨h1.moved ha, h2.moved ha, h3.moved ha, h4.moved ha, h5.moved ha, h6.moved ha, h7.same hv, h8.moved ha, h9.moved ha, fun w hw => (h10 w hw).same rfl hv.symm, fun w hw => (h11 w hw).same rfl hv.symm⟩
theorem zX.to {g : zG} {u U : State} (hW : u.WarmedH U.vm) (hq : ∀ a : Nat, a < u.heap.size → ¬ g.1 < a → U.heap[a]? = u.heap[a]?) (h : zX g u) : zX g U := by
  obtain ⟨h1, h2, h3, h4, h5, h6, h7, h8, h9, h10, h11⟩ := h
  have ha : u.vm.Alike U.vm := hW.alike
  exact ⟨(h1.moved ha).kept hq, (h2.moved ha).kept hq, (h3.moved ha).kept hq, (h4.moved ha).kept hq, (h5.moved ha).kept hq, (h6.moved ha).kept hq, h7.warm hW, (h8.moved ha).kept hq, h9.moved ha, fun w hw => (h10 w hw).warmM hW, fun w hw => (h11 w hw).warmF hW⟩
/-- the callee: its links and its room (n parameters) -/
def zLb (d d' : zD) (n : Nat) : Prop := Cond.initialized d'.1.cls ∈ zt ∧ Cond.code d'.1 d'.2.1 d'.2.2.1 d'.2.2.2.1 ∈ zt ∧ (d'.1.cls ≠ "java/lang/invoke/MethodHandle" ∧ d'.1.cls ≠ "java/lang/invoke/VarHandle" ∧ (parseMethodDescriptor d'.1.desc).map (fun d => d.parameters.length) = some n) ∧ d'.2.2.2.2.1 + 1 ≤ d.2.2.2.2.1 ∧ 8 + (d'.2.2.1 + 11) + d'.2.2.2.2.2 ≤ d.2.2.2.2.2
def zLv (d d' : zD) (idx n : Nat) : Prop := zLb d d' n ∧ Cond.methodLink d.1.cls idx d'.1 ∈ zt ∧ Cond.instanceMethod d'.1 ∈ zt ∧ Cond.selects d'.1.cls d'.1 d'.1 ∈ zt
def zLs (d d' : zD) (idx n : Nat) : Prop := zLb d d' n ∧ Cond.methodLink d.1.cls idx d'.1 ∈ zt ∧ Cond.static d'.1 ∈ zt
def zLi (d d' : zD) (idx n : Nat) : Prop := zLb d d' n ∧ Cond.methodLink d.1.cls idx d'.1 ∈ zt ∧ Cond.instanceMethod d'.1 ∈ zt ∧ d'.1.name = "<init>" ∧ d'.2.2.2.1 = none
section ZC
variable {g : zG} {d d' : zD} {mm mm' kw : Nat × Nat} {σ0 σ : zS} {Q Q' : zP} {pc : Nat} {l : List (Nat × Value)} {st : List Value} {M : zM} {idx a ci n : Nat} {As rest : List Value}
theorem zblind {as : List Value} : FrameBlind (va_Pc as (zWd g σ M)) := by
  intro a U fr mk h
  obtain ⟨h1, h2, h3, h4, h5⟩ := h
  exact ⟨h1, h2, va_K.moved (u := U) (U := U.calling fr mk a) (Vm.Alike.refl U.vm) h3, zX.same (u := U) (U := U.calling fr mk a) rfl rfl h4, h5⟩
theorem zpre {p : Program} {s U : State} {m : MethodId} {args : Array Value} {meth : Method} {c : Code} {H : Heap} {locs : List Loc} (B : zB g d p s m args meth c) (hS : va_S (zAg g σ0) s.heap H locs) (hH : zH g σ M H) (hU : U.heap = H) (hW : s.WarmedH U.vm) : zWd g σ M U := by
  obtain ⟨-, -, -, -, -, -, -, -, hK, hX, hz⟩ := B
  refine ⟨by rw [hU]; exact hH, va_K.moved hW.alike hK, hX.to hW (fun a h1 h2 => ?_), by rw [hU]; exact Nat.lt_of_lt_of_le hz hS.1⟩
  rw [hU]; exact hS.2.1 a h1 (fun h => h2 h.1)
/-- behind a call -/
theorem zback {p : Program} {la : Launch} {e : Env} {s : State} {m : MethodId} {args : Array Value} {below : List Frame} {meth : Method} {c : Code} {H : Heap} {locs : List Loc} {ls : Array Slot} {as : Array Value} (B : zB g d p s m args meth c) (hA : zAg g σ = zAg g σ0) (hS : va_S (zAg g σ0) s.heap H locs) (hl : lv_has ls d.2.2.1 l)
    (hr : va_Run p la e (zrm d mm) s m args below meth c H locs kw.1 kw.2 mm'.1 mm'.2 (F0 m pc ls st) rest (zQ g σ Q' as) (zAg g σ))
    (k : ∀ v σ' M', Q' v σ' M' → zR g d mm σ0 Q (pc + 3) l (v.toList ++ rest) (kw.1 + mm'.1, kw.2 + mm'.2) σ' M') : W p la e (zrm d mm) s m args below meth c H locs kw.1 kw.2 (MQ below (zQ g σ0 Q) args s mm.1 mm.2 (zAg g σ0)) (F0 m pc ls st) := by
  intro T hT X
  obtain ⟨v, st₀, t, T', L, h0, X', hL, e1, e2, ⟨⟨v', σ', M', hv, hq, hH', hAg⟩, hF⟩, goes⟩ := hr T hT X
  cases hv
  have hS' : va_S (zAg g σ0) s.heap T'.heap (locs ++ L) := by
    refine ⟨Nat.le_trans hS.1 (by rw [e1, ← h0]; exact hF.1), fun q h1 h2 => ?_, fun q hq => ?_⟩
    · rw [e1, hF.2 q (by rw [h0]; exact Nat.lt_of_lt_of_le h1 hS.1) (by rw [hA]; exact h2), h0]
      exact hS.2.1 q h1 h2
    · rcases List.mem_append.mp hq with h | h
      · exact hS.2.2 q h
      · rw [← hA]; exact hL q h
  obtain ⟨t2, a1, b1⟩ := k v σ' M' hq la p e s m args below meth c B T'.heap (locs ++ L) ls (hAg.trans hA) hS' (by rw [e1]; exact hH') hl T' rfl X'
  exact ⟨t2, goes t2 a1, b1⟩
theorem zr_callV (hd : decode d.2.1 pc = .ok (.invokevirtual idx, 3)) (hL : zLv d d' idx n) (hs : zh σ a = (0, ci)) (hci : (zcls[ci]?).map (fun r => r.1) = some d'.1.cls) (hst : st = As.reverse ++ zA g a :: rest) (hn : As.length = n) (hw : (rest.map fun v => v.category).sum ≤ 8) (hm : kw.1 + mm'.1 ≤ mm.1 ∧ kw.2 + mm'.2 ≤ mm.2)
    (hc : zC g d' mm' (zA g a :: As) σ M Q') (k : ∀ v σ' M', Q' v σ' M' → zR g d mm σ0 Q (pc + 3) l (v.toList ++ rest) (kw.1 + mm'.1, kw.2 + mm'.2) σ' M') : zR g d mm σ0 Q pc l st kw σ M := by
  intro la p e s m args below meth c B H locs ls hA hS hH hl
  have B' := B
  obtain ⟨hx, hb, hml, -, -, hown, hts, -, hK, -⟩ := B'
  obtain ⟨⟨w1, w2, hdd, hf1, hf2⟩, w3, w4, w5⟩ := hL
  obtain ⟨r, hr, cell, q1, q2, q3, -⟩ := zc_obj (hH.1 a) hs
  have hG : GoodIn zt (wsV d.1.cls idx d'.1.cls d'.1 (zw d')) := fun w hw => by
    rcases List.mem_append.mp hw with h | h
    · simp only [List.mem_cons, List.not_mem_nil, or_false] at h
      rcases h with rfl | rfl | rfl | rfl
      · exact ⟨w3, zgoodOf w3⟩
      · exact ⟨w4, zgoodOf w4⟩
      · exact ⟨w5, zgoodOf w5⟩
      · exact ⟨w1, zgoodOf w1⟩
    · exact zgoodIn w2 w h
  rw [hr] at hci
  refine zback (mm' := mm') (as := (Value.ref (g.1 + a) :: As).toArray) B hA hS hl (va_runV (As := As) (rest := rest) (C := d'.1.cls) ⟨hx, hb, hml, hown, hts⟩ (hc la) (cwV n hts hG rfl rfl rfl ⟨rfl, hdd⟩ ⟨hf1, hf2⟩) ⟨zblind, ⟨cell, q1, by rw [q3]; rfl, ?_⟩, fun U hU hW => ⟨rfl, zpre B hS hH hU hW⟩⟩ rfl hn hl.1 hst (lv_room hw) hd hm) k
  rw [q2, ← Option.some.inj hci]; exact (hK.1 ci r hr).2.1
theorem zr_callS (hd : decode d.2.1 pc = .ok (.invokestatic idx, 3)) (hL : zLs d d' idx n) (hst : st = As.reverse ++ rest) (hn : As.length = n) (hw : (rest.map fun v => v.category).sum ≤ 8) (hm : kw.1 + mm'.1 ≤ mm.1 ∧ kw.2 + mm'.2 ≤ mm.2)
    (hc : zC g d' mm' As σ M Q') (k : ∀ v σ' M', Q' v σ' M' → zR g d mm σ0 Q (pc + 3) l (v.toList ++ rest) (kw.1 + mm'.1, kw.2 + mm'.2) σ' M') : zR g d mm σ0 Q pc l st kw σ M := by
  intro la p e s m args below meth c B H locs ls hA hS hH hl
  have B' := B
  obtain ⟨hx, hb, hml, -, -, hown, hts, -, hK, -⟩ := B'
  obtain ⟨⟨w1, w2, hdd, hf1, hf2⟩, w3, w4⟩ := hL
  have hG : GoodIn zt (va_wsS d.1.cls idx d'.1 (zw d')) := fun w hw => by
    rcases List.mem_append.mp hw with h | h
    · simp only [List.mem_cons, List.not_mem_nil, or_false] at h
      rcases h with rfl | rfl | rfl
      · exact ⟨w3, zgoodOf w3⟩
      · exact ⟨w4, zgoodOf w4⟩
      · exact ⟨w1, zgoodOf w1⟩
    · exact zgoodIn w2 w h
  exact zback (mm' := mm') (as := As.toArray) B hA hS hl (va_runS (As := As) (rest := rest) ⟨hx, hb, hml, hown, hts⟩ (hc la) (va_cwS n hts hG rfl rfl rfl hdd ⟨hf1, hf2⟩) ⟨zblind, fun U hU hW => ⟨rfl, zpre B hS hH hU hW⟩⟩ rfl hn hl.1 hst (lv_room hw) hd hm) k
theorem zr_callI (hd : decode d.2.1 pc = .ok (.invokespecial idx, 3)) (hL : zLi d d' idx n) (hst : st = As.reverse ++ zA g a :: rest) (hn : As.length = n) (hw : (rest.map fun v => v.category).sum ≤ 8) (hm : kw.1 + mm'.1 ≤ mm.1 ∧ kw.2 + mm'.2 ≤ mm.2)
    (hc : zC g d' mm' (zA g a :: As) σ M Q') (k : ∀ v σ' M', Q' v σ' M' → zR g d mm σ0 Q (pc + 3) l (v.toList ++ rest) (kw.1 + mm'.1, kw.2 + mm'.2) σ' M') : zR g d mm σ0 Q pc l st kw σ M := by
  intro la p e s m args below meth c B H locs ls hA hS hH hl
  have B' := B
  obtain ⟨hx, hb, hml, -, -, hown, hts, -, hK, -⟩ := B'
  obtain ⟨⟨w1, w2, hdd, hf1, hf2⟩, w3, w4, w5, w6⟩ := hL
  have hc := hc la
  have hG := zgoodIn w2
  exact zback (mm' := mm') (as := (Value.ref (g.1 + a) :: As).toArray) B hA hS hl (va_runI (As := As) (rest := rest) ⟨hx, hb, hml, hown, hts⟩ hc (cwI n hts hG (by unfold zw; rw [w6]) rfl rfl (hts _ w1) (hts _ w3) (hts _ w4) w5 hdd ⟨hf1, hf2⟩) ⟨zblind, fun U hU hW => ⟨rfl, zpre B hS hH hU hW⟩⟩ rfl hn hl.1 hst (lv_room hw) hd hm) k
end ZC
