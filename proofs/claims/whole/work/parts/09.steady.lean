/-! contracts over a signature that stays -/
def zQi (σ : zS) (q : Int → zM → Prop) : zP := fun v σ' M' => σ' = σ ∧ ∃ r : Int, v = some (zI r) ∧ q r M'
def zQl (σ : zS) (q : Int → zM → Prop) : zP := fun v σ' M' => σ' = σ ∧ ∃ r : Int, v = some (zL r) ∧ q r M'
def zQv (σ : zS) (q : zM → Prop) : zP := fun v σ' M' => σ' = σ ∧ v = none ∧ q M'
abbrev zKi (g : zG) (σ : zS) (d : zD) (as : List Value) (M : zM) (q : Int → zM → Prop) : Prop := zC g d (0, 0) as σ M (zQi σ q)
abbrev zKl (g : zG) (σ : zS) (d : zD) (as : List Value) (M : zM) (q : Int → zM → Prop) : Prop := zC g d (0, 0) as σ M (zQl σ q)
abbrev zKv (g : zG) (σ : zS) (d : zD) (as : List Value) (M : zM) (q : zM → Prop) : Prop := zC g d (0, 0) as σ M (zQv σ q)
abbrev zT (g : zG) (σ : zS) (d : zD) (Q : zP) (pc : Nat) (l : List (Nat × Value)) (st : List Value) (M : zM) : Prop := zR g d (0, 0) σ Q pc l st (0, 0) σ M
noncomputable def zb (P : Prop) : Int := @ite Int P (Classical.propDecidable P) 1 0
theorem zb_t {P : Prop} (h : P) : zb P = 1 := by unfold zb; exact if_pos h
theorem zb_f {P : Prop} (h : ¬ P) : zb P = 0 := by unfold zb; exact if_neg h
theorem zb01 (P : Prop) : zb P = 0 ∨ zb P = 1 := (Classical.em P).elim (fun h => Or.inr (zb_t h)) (fun h => Or.inl (zb_f h))
theorem zb_in (P : Prop) : zin (zb P) := by rcases zb01 P with h | h <;> rw [h] <;> exact ⟨by decide, by decide⟩
theorem zb_0 {P : Prop} : zb P = 0 ↔ ¬ P := ⟨fun h hp => by rw [zb_t hp] at h; omega, zb_f⟩
theorem zb_1 {P : Prop} : zb P = 1 ↔ P := ⟨fun h => Classical.byContradiction fun hp => by rw [zb_f hp] at h; omega, zb_t⟩
theorem zb_congr {P R : Prop} (h : P ↔ R) : zb P = zb R := by rw [propext h]
section ZT
variable {g : zG} {d d' : zD} {σ : zS} {Q : zP} {pc : Nat} {l : List (Nat × Value)} {st : List Value} {M : zM} {idx a ci n : Nat} {As rest : List Value}
theorem zt_ifeq_b {P : Prop} {off : Int} {tgt : Nat} (hd : decode d.2.1 pc = .ok (.ifCond .eq off, 3)) (ht : (pc : Int) + off = (tgt : Int)) (kt : ¬ P → zT g σ d Q tgt l st M) (kf : P → zT g σ d Q (pc + 3) l st M) : zT g σ d Q pc l (zI (zb P) :: st) M :=
  zr_if_eq hd ht (zb_in P) (fun h => kt (zb_0.mp h)) (fun h => kf (Classical.byContradiction fun hp => h (zb_0.mpr hp)))
theorem zt_ifne_b {P : Prop} {off : Int} {tgt : Nat} (hd : decode d.2.1 pc = .ok (.ifCond .ne off, 3)) (ht : (pc : Int) + off = (tgt : Int)) (kt : P → zT g σ d Q tgt l st M) (kf : ¬ P → zT g σ d Q (pc + 3) l st M) : zT g σ d Q pc l (zI (zb P) :: st) M :=
  zr_if_ne hd ht (zb_in P) (fun h => kt (Classical.byContradiction fun hp => h (zb_0.mpr hp))) (fun h => kf (zb_0.mp h))
theorem zt_iret {q : Int → zM → Prop} {x : Int} (hd : decode d.2.1 pc = .ok (.ireturn, 1)) (hr : d.2.2.2.1 = some .int) (h : q x M) : zT g σ d (zQi σ q) pc l [zI x] M := zr_ireturn hd hr rfl ⟨rfl, x, rfl, h⟩
theorem zt_zret {q : Int → zM → Prop} {x : Int} (hd : decode d.2.1 pc = .ok (.ireturn, 1)) (hr : d.2.2.2.1 = some .boolean) (hx : x = 0 ∨ x = 1) (h : q x M) : zT g σ d (zQi σ q) pc l [zI x] M := zr_zreturn hd hr hx rfl ⟨rfl, x, rfl, h⟩
theorem zt_lret {q : Int → zM → Prop} {x : Int} (hd : decode d.2.1 pc = .ok (.lreturn, 1)) (hr : d.2.2.2.1 = some .long) (h : q x M) : zT g σ d (zQl σ q) pc l [zL x] M := zr_lreturn hd hr rfl ⟨rfl, x, rfl, h⟩
theorem zt_ret {q : zM → Prop} (hd : decode d.2.1 pc = .ok (.return_, 1)) (hr : d.2.2.2.1 = none) (h : q M) : zT g σ d (zQv σ q) pc l [] M := zr_return hd hr rfl ⟨rfl, rfl, h⟩
theorem zt_callVi {q : Int → zM → Prop} (hd : decode d.2.1 pc = .ok (.invokevirtual idx, 3)) (hL : zLv d d' idx n) (hs : zh σ a = (0, ci)) (hci : (zcls[ci]?).map (fun r => r.1) = some d'.1.cls) (hst : st = As.reverse ++ zA g a :: rest) (hn : As.length = n) (hw : (rest.map fun v => v.category).sum ≤ 8) (hc : zKi g σ d' (zA g a :: As) M q) (k : ∀ r M', q r M' → zT g σ d Q (pc + 3) l (zI r :: rest) M') : zT g σ d Q pc l st M :=
  zr_callV (mm' := (0, 0)) hd hL hs hci hst hn hw ⟨Nat.le_refl 0, Nat.le_refl 0⟩ hc (fun v σ' M' h => by obtain ⟨rfl, r, rfl, h⟩ := h; exact k r M' h)
theorem zt_callVl {q : Int → zM → Prop} (hd : decode d.2.1 pc = .ok (.invokevirtual idx, 3)) (hL : zLv d d' idx n) (hs : zh σ a = (0, ci)) (hci : (zcls[ci]?).map (fun r => r.1) = some d'.1.cls) (hst : st = As.reverse ++ zA g a :: rest) (hn : As.length = n) (hw : (rest.map fun v => v.category).sum ≤ 8) (hc : zKl g σ d' (zA g a :: As) M q) (k : ∀ r M', q r M' → zT g σ d Q (pc + 3) l (zL r :: rest) M') : zT g σ d Q pc l st M :=
  zr_callV (mm' := (0, 0)) hd hL hs hci hst hn hw ⟨Nat.le_refl 0, Nat.le_refl 0⟩ hc (fun v σ' M' h => by obtain ⟨rfl, r, rfl, h⟩ := h; exact k r M' h)
theorem zt_callVv {q : zM → Prop} (hd : decode d.2.1 pc = .ok (.invokevirtual idx, 3)) (hL : zLv d d' idx n) (hs : zh σ a = (0, ci)) (hci : (zcls[ci]?).map (fun r => r.1) = some d'.1.cls) (hst : st = As.reverse ++ zA g a :: rest) (hn : As.length = n) (hw : (rest.map fun v => v.category).sum ≤ 8) (hc : zKv g σ d' (zA g a :: As) M q) (k : ∀ M', q M' → zT g σ d Q (pc + 3) l rest M') : zT g σ d Q pc l st M :=
  zr_callV (mm' := (0, 0)) hd hL hs hci hst hn hw ⟨Nat.le_refl 0, Nat.le_refl 0⟩ hc (fun v σ' M' h => by obtain ⟨rfl, rfl, h⟩ := h; exact k M' h)
theorem zt_callSi {q : Int → zM → Prop} (hd : decode d.2.1 pc = .ok (.invokestatic idx, 3)) (hL : zLs d d' idx n) (hst : st = As.reverse ++ rest) (hn : As.length = n) (hw : (rest.map fun v => v.category).sum ≤ 8) (hc : zKi g σ d' As M q) (k : ∀ r M', q r M' → zT g σ d Q (pc + 3) l (zI r :: rest) M') : zT g σ d Q pc l st M :=
  zr_callS (mm' := (0, 0)) hd hL hst hn hw ⟨Nat.le_refl 0, Nat.le_refl 0⟩ hc (fun v σ' M' h => by obtain ⟨rfl, r, rfl, h⟩ := h; exact k r M' h)
theorem zt_callSl {q : Int → zM → Prop} (hd : decode d.2.1 pc = .ok (.invokestatic idx, 3)) (hL : zLs d d' idx n) (hst : st = As.reverse ++ rest) (hn : As.length = n) (hw : (rest.map fun v => v.category).sum ≤ 8) (hc : zKl g σ d' As M q) (k : ∀ r M', q r M' → zT g σ d Q (pc + 3) l (zL r :: rest) M') : zT g σ d Q pc l st M :=
  zr_callS (mm' := (0, 0)) hd hL hst hn hw ⟨Nat.le_refl 0, Nat.le_refl 0⟩ hc (fun v σ' M' h => by obtain ⟨rfl, r, rfl, h⟩ := h; exact k r M' h)
theorem zt_callSv {q : zM → Prop} (hd : decode d.2.1 pc = .ok (.invokestatic idx, 3)) (hL : zLs d d' idx n) (hst : st = As.reverse ++ rest) (hn : As.length = n) (hw : (rest.map fun v => v.category).sum ≤ 8) (hc : zKv g σ d' As M q) (k : ∀ M', q M' → zT g σ d Q (pc + 3) l rest M') : zT g σ d Q pc l st M :=
  zr_callS (mm' := (0, 0)) hd hL hst hn hw ⟨Nat.le_refl 0, Nat.le_refl 0⟩ hc (fun v σ' M' h => by obtain ⟨rfl, rfl, h⟩ := h; exact k M' h)
theorem zki_of {as : List Value} {q : Int → zM → Prop} (hy : plainName d.1.cls = true) (hle : (lg_sl as).length ≤ d.2.2.1) (h : zT g σ d (zQi σ q) 0 (lv_args 0 as) [] M) : zKi g σ d as M q := zC_of hy hle h
theorem zkl_of {as : List Value} {q : Int → zM → Prop} (hy : plainName d.1.cls = true) (hle : (lg_sl as).length ≤ d.2.2.1) (h : zT g σ d (zQl σ q) 0 (lv_args 0 as) [] M) : zKl g σ d as M q := zC_of hy hle h
theorem zkv_of {as : List Value} {q : zM → Prop} (hy : plainName d.1.cls = true) (hle : (lg_sl as).length ≤ d.2.2.1) (h : zT g σ d (zQv σ q) 0 (lv_args 0 as) [] M) : zKv g σ d as M q := zC_of hy hle h
end ZT
