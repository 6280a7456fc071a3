section ZR3
variable {g : zG} {d : zD} {mm kw : Nat × Nat} {σ0 σ : zS} {Q : zP} {pc pc' : Nat} {l l' : List (Nat × Value)} {st st' : List Value} {M : zM}
theorem zr_icmp_lt {x y off : Int} {tgt : Nat} (hd : decode d.2.1 pc = .ok (.if_icmp .lt off, 3)) (ht : (pc : Int) + off = (tgt : Int)) (hx : zin x) (hy : zin y) (kt : x < y → zR g d mm σ0 Q tgt l st kw σ M) (kf : ¬ (x < y) → zR g d mm σ0 Q (pc + 3) l st kw σ M) : zR g d mm σ0 Q pc l (zI y :: zI x :: st) kw σ M :=
  fun la p e s m args below meth c B H locs ls hA hS hH hl => lv_icmp_lt B.1 B.2.1 hd ht (fun h => kt ((zi_lt hx hy).mp h) la p e s m args below meth c B H locs ls hA hS hH hl) (fun h => kf (fun h' => h ((zi_lt hx hy).mpr h')) la p e s m args below meth c B H locs ls hA hS hH hl)
theorem zr_icmp_ge {x y off : Int} {tgt : Nat} (hd : decode d.2.1 pc = .ok (.if_icmp .ge off, 3)) (ht : (pc : Int) + off = (tgt : Int)) (hx : zin x) (hy : zin y) (kt : y ≤ x → zR g d mm σ0 Q tgt l st kw σ M) (kf : ¬ (y ≤ x) → zR g d mm σ0 Q (pc + 3) l st kw σ M) : zR g d mm σ0 Q pc l (zI y :: zI x :: st) kw σ M :=
  fun la p e s m args below meth c B H locs ls hA hS hH hl => lv_icmp_ge B.1 B.2.1 hd ht (fun h => kt ((Iff.trans (by first | exact Iff.rfl | simp [ge_iff_le]) (zi_le hy hx)).mp h) la p e s m args below meth c B H locs ls hA hS hH hl) (fun h => kf (fun h' => h ((Iff.trans (by first | exact Iff.rfl | simp [ge_iff_le]) (zi_le hy hx)).mpr h')) la p e s m args below meth c B H locs ls hA hS hH hl)
theorem zr_icmp_gt {x y off : Int} {tgt : Nat} (hd : decode d.2.1 pc = .ok (.if_icmp .gt off, 3)) (ht : (pc : Int) + off = (tgt : Int)) (hx : zin x) (hy : zin y) (kt : y < x → zR g d mm σ0 Q tgt l st kw σ M) (kf : ¬ (y < x) → zR g d mm σ0 Q (pc + 3) l st kw σ M) : zR g d mm σ0 Q pc l (zI y :: zI x :: st) kw σ M :=
  fun la p e s m args below meth c B H locs ls hA hS hH hl => lv_icmp_gt B.1 B.2.1 hd ht (fun h => kt ((zi_lt hy hx).mp h) la p e s m args below meth c B H locs ls hA hS hH hl) (fun h => kf (fun h' => h ((zi_lt hy hx).mpr h')) la p e s m args below meth c B H locs ls hA hS hH hl)
theorem zr_icmp_le {x y off : Int} {tgt : Nat} (hd : decode d.2.1 pc = .ok (.if_icmp .le off, 3)) (ht : (pc : Int) + off = (tgt : Int)) (hx : zin x) (hy : zin y) (kt : x ≤ y → zR g d mm σ0 Q tgt l st kw σ M) (kf : ¬ (x ≤ y) → zR g d mm σ0 Q (pc + 3) l st kw σ M) : zR g d mm σ0 Q pc l (zI y :: zI x :: st) kw σ M :=
  fun la p e s m args below meth c B H locs ls hA hS hH hl => lv_icmp_le B.1 B.2.1 hd ht (fun h => kt ((zi_le hx hy).mp h) la p e s m args below meth c B H locs ls hA hS hH hl) (fun h => kf (fun h' => h ((zi_le hx hy).mpr h')) la p e s m args below meth c B H locs ls hA hS hH hl)
theorem zr_icmp_eq {x y off : Int} {tgt : Nat} (hd : decode d.2.1 pc = .ok (.if_icmp .eq off, 3)) (ht : (pc : Int) + off = (tgt : Int)) (hx : zin x) (hy : zin y) (kt : x = y → zR g d mm σ0 Q tgt l st kw σ M) (kf : ¬ (x = y) → zR g d mm σ0 Q (pc + 3) l st kw σ M) : zR g d mm σ0 Q pc l (zI y :: zI x :: st) kw σ M :=
  fun la p e s m args below meth c B H locs ls hA hS hH hl => lv_icmp_eq B.1 B.2.1 hd ht (fun h => kt ((zi_eq hx hy).mp h) la p e s m args below meth c B H locs ls hA hS hH hl) (fun h => kf (fun h' => h ((zi_eq hx hy).mpr h')) la p e s m args below meth c B H locs ls hA hS hH hl)
theorem zr_icmp_ne {x y off : Int} {tgt : Nat} (hd : decode d.2.1 pc = .ok (.if_icmp .ne off, 3)) (ht : (pc : Int) + off = (tgt : Int)) (hx : zin x) (hy : zin y) (kt : x ≠ y → zR g d mm σ0 Q tgt l st kw σ M) (kf : x = y → zR g d mm σ0 Q (pc + 3) l st kw σ M) : zR g d mm σ0 Q pc l (zI y :: zI x :: st) kw σ M :=
  fun la p e s m args below meth c B H locs ls hA hS hH hl => lv_icmp_ne B.1 B.2.1 hd ht (fun h => kt ((not_congr (zi_eq hx hy)).mp h) la p e s m args below meth c B H locs ls hA hS hH hl) (fun h => kf ((zi_eq hx hy).mp h) la p e s m args below meth c B H locs ls hA hS hH hl)
theorem zr_if_lt {x off : Int} {tgt : Nat} (hd : decode d.2.1 pc = .ok (.ifCond .lt off, 3)) (ht : (pc : Int) + off = (tgt : Int)) (hx : zin x) (kt : x < 0 → zR g d mm σ0 Q tgt l st kw σ M) (kf : ¬ (x < 0) → zR g d mm σ0 Q (pc + 3) l st kw σ M) : zR g d mm σ0 Q pc l (zI x :: st) kw σ M :=
  fun la p e s m args below meth c B H locs ls hA hS hH hl => lv_if_lt B.1 B.2.1 hd ht (fun h => kt ((zi_lt hx zin0).mp h) la p e s m args below meth c B H locs ls hA hS hH hl) (fun h => kf (fun h' => h ((zi_lt hx zin0).mpr h')) la p e s m args below meth c B H locs ls hA hS hH hl)
theorem zr_if_ge {x off : Int} {tgt : Nat} (hd : decode d.2.1 pc = .ok (.ifCond .ge off, 3)) (ht : (pc : Int) + off = (tgt : Int)) (hx : zin x) (kt : 0 ≤ x → zR g d mm σ0 Q tgt l st kw σ M) (kf : ¬ (0 ≤ x) → zR g d mm σ0 Q (pc + 3) l st kw σ M) : zR g d mm σ0 Q pc l (zI x :: st) kw σ M :=
  fun la p e s m args below meth c B H locs ls hA hS hH hl => lv_if_ge B.1 B.2.1 hd ht (fun h => kt ((Iff.trans (by first | exact Iff.rfl | simp [ge_iff_le]) (zi_le zin0 hx)).mp h) la p e s m args below meth c B H locs ls hA hS hH hl) (fun h => kf (fun h' => h ((Iff.trans (by first | exact Iff.rfl | simp [ge_iff_le]) (zi_le zin0 hx)).mpr h')) la p e s m args below meth c B H locs ls hA hS hH hl)
theorem zr_if_gt {x off : Int} {tgt : Nat} (hd : decode d.2.1 pc = .ok (.ifCond .gt off, 3)) (ht : (pc : Int) + off = (tgt : Int)) (hx : zin x) (kt : 0 < x → zR g d mm σ0 Q tgt l st kw σ M) (kf : ¬ (0 < x) → zR g d mm σ0 Q (pc + 3) l st kw σ M) : zR g d mm σ0 Q pc l (zI x :: st) kw σ M :=
  fun la p e s m args below meth c B H locs ls hA hS hH hl => lv_if_gt B.1 B.2.1 hd ht (fun h => kt ((zi_lt zin0 hx).mp h) la p e s m args below meth c B H locs ls hA hS hH hl) (fun h => kf (fun h' => h ((zi_lt zin0 hx).mpr h')) la p e s m args below meth c B H locs ls hA hS hH hl)
theorem zr_if_le {x off : Int} {tgt : Nat} (hd : decode d.2.1 pc = .ok (.ifCond .le off, 3)) (ht : (pc : Int) + off = (tgt : Int)) (hx : zin x) (kt : x ≤ 0 → zR g d mm σ0 Q tgt l st kw σ M) (kf : ¬ (x ≤ 0) → zR g d mm σ0 Q (pc + 3) l st kw σ M) : zR g d mm σ0 Q pc l (zI x :: st) kw σ M :=
  fun la p e s m args below meth c B H locs ls hA hS hH hl => lv_if_le B.1 B.2.1 hd ht (fun h => kt ((zi_le hx zin0).mp h) la p e s m args below meth c B H locs ls hA hS hH hl) (fun h => kf (fun h' => h ((zi_le hx zin0).mpr h')) la p e s m args below meth c B H locs ls hA hS hH hl)
theorem zr_if_eq {x off : Int} {tgt : Nat} (hd : decode d.2.1 pc = .ok (.ifCond .eq off, 3)) (ht : (pc : Int) + off = (tgt : Int)) (hx : zin x) (kt : x = 0 → zR g d mm σ0 Q tgt l st kw σ M) (kf : ¬ (x = 0) → zR g d mm σ0 Q (pc + 3) l st kw σ M) : zR g d mm σ0 Q pc l (zI x :: st) kw σ M :=
  fun la p e s m args below meth c B H locs ls hA hS hH hl => lv_if_eq B.1 B.2.1 hd ht (fun h => kt ((zi_eq hx zin0).mp h) la p e s m args below meth c B H locs ls hA hS hH hl) (fun h => kf (fun h' => h ((zi_eq hx zin0).mpr h')) la p e s m args below meth c B H locs ls hA hS hH hl)
theorem zr_if_ne {x off : Int} {tgt : Nat} (hd : decode d.2.1 pc = .ok (.ifCond .ne off, 3)) (ht : (pc : Int) + off = (tgt : Int)) (hx : zin x) (kt : x ≠ 0 → zR g d mm σ0 Q tgt l st kw σ M) (kf : x = 0 → zR g d mm σ0 Q (pc + 3) l st kw σ M) : zR g d mm σ0 Q pc l (zI x :: st) kw σ M :=
  fun la p e s m args below meth c B H locs ls hA hS hH hl => lv_if_ne B.1 B.2.1 hd ht (fun h => kt ((not_congr (zi_eq hx zin0)).mp h) la p e s m args below meth c B H locs ls hA hS hH hl) (fun h => kf ((zi_eq hx zin0).mp h) la p e s m args below meth c B H locs ls hA hS hH hl)
/-- arrays: a read, a write -/
theorem zr_iald {a n : Nat} {i : Int} (hd : decode d.2.1 pc = .ok (.iaload, 1)) (hs : zh σ a = (1, n)) (hn : n ≤ 100000) (hi : 0 ≤ i ∧ i < n) (k : zR g d mm σ0 Q (pc + 1) l (zI (M a i) :: st) kw σ M) : zR g d mm σ0 Q pc l (zI i :: zA g a :: st) kw σ M := by
  intro la p e s m args below meth c B H locs ls hA hS hH hl
  have kk := k la p e s m args below meth c B H locs ls hA hS hH hl
  have hc := zc_arr (hH.1 a) hs (by decide) (by decide)
  have hin := zi_in hi.1 hi.2 hn
  have he : (Int32.ofInt i).toNatClampNeg = i.toNat := zi_nn ⟨by omega, by omega⟩ hi.1
  refine W.iald (v := zI (M a i)) B.1 B.2.1 hc ((B.2.2.2.2.2.2.2.2.1.2 0 _ rfl).1 n _) (fun q => by cases q) (by rw [arrV_size]; exact hin) (by rw [he, arrV_read _ _ (by omega), Int.toNat_of_nonneg hi.1]; rfl) rfl rfl hd kk
theorem zr_zald {a n : Nat} {i : Int} (hd : decode d.2.1 pc = .ok (.baload, 1)) (hs : zh σ a = (2, n)) (hn : n ≤ 100000) (hi : 0 ≤ i ∧ i < n) (k : zR g d mm σ0 Q (pc + 1) l (zI (M a i) :: st) kw σ M) : zR g d mm σ0 Q pc l (zI i :: zA g a :: st) kw σ M := by
  intro la p e s m args below meth c B H locs ls hA hS hH hl
  have kk := k la p e s m args below meth c B H locs ls hA hS hH hl
  have hc := zc_arr (hH.1 a) hs (by decide) (by decide)
  have hin := zi_in hi.1 hi.2 hn
  have he : (Int32.ofInt i).toNatClampNeg = i.toNat := zi_nn ⟨by omega, by omega⟩ hi.1
  refine W.zald (v := zI (M a i)) B.1 B.2.1 hc ((B.2.2.2.2.2.2.2.2.1.2 1 _ rfl).1 n _) (fun q => by cases q) (by rw [arrV_size]; exact hin) (by rw [he, arrV_read _ _ (by omega), Int.toNat_of_nonneg hi.1]; rfl) rfl rfl hd kk
theorem zr_lald {a n : Nat} {i : Int} (hd : decode d.2.1 pc = .ok (.laload, 1)) (hs : zh σ a = (3, n)) (hn : n ≤ 100000) (hi : 0 ≤ i ∧ i < n) (k : zR g d mm σ0 Q (pc + 1) l (zL (M a i) :: st) kw σ M) : zR g d mm σ0 Q pc l (zI i :: zA g a :: st) kw σ M := by
  intro la p e s m args below meth c B H locs ls hA hS hH hl
  have kk := k la p e s m args below meth c B H locs ls hA hS hH hl
  have hc := zc_arr (hH.1 a) hs (by decide) (by decide)
  have hin := zi_in hi.1 hi.2 hn
  have he : (Int32.ofInt i).toNatClampNeg = i.toNat := zi_nn ⟨by omega, by omega⟩ hi.1
  refine W.lald (v := zL (M a i)) B.1 B.2.1 hc ((B.2.2.2.2.2.2.2.2.1.2 2 _ rfl).1 n _) (fun q => by cases q) (by rw [arrV_size]; exact hin) (by rw [he, arrV_read _ _ (by omega), Int.toNat_of_nonneg hi.1]; rfl) rfl rfl hd kk
theorem zr_aald {a n b : Nat} {i : Int} (hd : decode d.2.1 pc = .ok (.aaload, 1)) (hs : zh σ a = (4, n)) (hn : n ≤ 100000) (hi : 0 ≤ i ∧ i < n) (hb : M a i = (b : Int)) (h0 : b ≠ 0) (k : zR g d mm σ0 Q (pc + 1) l (zA g b :: st) kw σ M) : zR g d mm σ0 Q pc l (zI i :: zA g a :: st) kw σ M := by
  intro la p e s m args below meth c B H locs ls hA hS hH hl
  have kk := k la p e s m args below meth c B H locs ls hA hS hH hl
  have hc := zc_arr (hH.1 a) hs (by decide) (by decide)
  have hin := zi_in hi.1 hi.2 hn
  have he : (Int32.ofInt i).toNatClampNeg = i.toNat := zi_nn ⟨by omega, by omega⟩ hi.1
  refine W.aald (v := zA g b) (ty := .object "SandMarch$Sand") B.1 B.2.1 hc ((B.2.2.2.2.2.2.2.2.1.2 3 _ rfl).1 n _) rfl (fun q => by cases q) (by rw [arrV_size]; exact hin) (by rw [he, arrV_read _ _ (by omega), Int.toNat_of_nonneg hi.1]; show some (zN g (M a i).toNat) = _; rw [hb]; simp [zN, zA, h0]) rfl rfl hd kk
theorem zr_iast {a n : Nat} {i x : Int} (hd : decode d.2.1 pc = .ok (.iastore, 1)) (hs : zh σ a = (1, n)) (hn : n ≤ 100000) (hi : 0 ≤ i ∧ i < n) (k : zR g d mm σ0 Q (pc + 1) l st kw σ (zu M a i x)) : zR g d mm σ0 Q pc l (zI x :: zI i :: zA g a :: st) kw σ M := by
  intro la p e s m args below meth c B H locs ls hA hS hH hl
  have k := k la p e s m args below meth c B
  have hc := zc_arr (hH.1 a) hs (by decide) (by decide)
  have hin := zi_in hi.1 hi.2 hn
  have he : (Int32.ofInt i).toNatClampNeg = i.toNat := zi_nn ⟨by omega, by omega⟩ hi.1
  have hz : zAg g σ0 (g.1 + a) := by rw [← hA]; exact zAg_in hs (show (1 : Nat) ≠ 9 by decide)
  refine W.iast B.1 B.2.1 hc ((B.2.2.2.2.2.2.2.2.1.2 0 _ rfl).1 n _) (fun q => by cases q) (by rw [arrV_size]; exact hin) rfl rfl hd fun H1 e z oq => ?_
  refine k H1 _ ls hA (hS.put z oq hz) (hH.put (a := a) z oq (fun b j h => zu_ne h) (zc_ist hi.1 (Or.inl rfl) hs ?_)) hl
  rw [e, arrV_store, he]; rfl
theorem zr_zast {a n : Nat} {i x : Int} (hd : decode d.2.1 pc = .ok (.bastore, 1)) (hs : zh σ a = (2, n)) (hn : n ≤ 100000) (hi : 0 ≤ i ∧ i < n) (hx : x = 0 ∨ x = 1) (k : zR g d mm σ0 Q (pc + 1) l st kw σ (zu M a i x)) : zR g d mm σ0 Q pc l (zI x :: zI i :: zA g a :: st) kw σ M := by
  intro la p e s m args below meth c B H locs ls hA hS hH hl
  have k := k la p e s m args below meth c B
  have hc := zc_arr (hH.1 a) hs (by decide) (by decide)
  have hin := zi_in hi.1 hi.2 hn
  have he : (Int32.ofInt i).toNatClampNeg = i.toNat := zi_nn ⟨by omega, by omega⟩ hi.1
  have hz : zAg g σ0 (g.1 + a) := by rw [← hA]; exact zAg_in hs (show (2 : Nat) ≠ 9 by decide)
  refine W.zast B.1 B.2.1 hc ((B.2.2.2.2.2.2.2.2.1.2 1 _ rfl).1 n _) (fun q => by cases q) (by rw [arrV_size]; exact hin) rfl rfl hd fun H1 e z oq => ?_
  refine k H1 _ ls hA (hS.put z oq hz) (hH.put (a := a) z oq (fun b j h => zu_ne h) (zc_ist hi.1 (Or.inr rfl) hs ?_)) hl
  rw [e, arrV_store, he]
  rcases hx with rfl | rfl <;> rfl
theorem zr_last {a n : Nat} {i x : Int} (hd : decode d.2.1 pc = .ok (.lastore, 1)) (hs : zh σ a = (3, n)) (hn : n ≤ 100000) (hi : 0 ≤ i ∧ i < n) (k : zR g d mm σ0 Q (pc + 1) l st kw σ (zu M a i x)) : zR g d mm σ0 Q pc l (zL x :: zI i :: zA g a :: st) kw σ M := by
  intro la p e s m args below meth c B H locs ls hA hS hH hl
  have k := k la p e s m args below meth c B
  have hc := zc_arr (hH.1 a) hs (by decide) (by decide)
  have hin := zi_in hi.1 hi.2 hn
  have he : (Int32.ofInt i).toNatClampNeg = i.toNat := zi_nn ⟨by omega, by omega⟩ hi.1
  have hz : zAg g σ0 (g.1 + a) := by rw [← hA]; exact zAg_in hs (show (3 : Nat) ≠ 9 by decide)
  refine W.last B.1 B.2.1 hc ((B.2.2.2.2.2.2.2.2.1.2 2 _ rfl).1 n _) (fun q => by cases q) (by rw [arrV_size]; exact hin) rfl rfl hd fun H1 e z oq => ?_
  refine k H1 _ ls hA (hS.put z oq hz) (hH.put (a := a) z oq (fun b j h => zu_ne h) (zc_lst hi.1 hs ?_)) hl
  rw [e, arrV_store, he]; rfl
theorem zr_alen {a n kd : Nat} (hd : decode d.2.1 pc = .ok (.arraylength, 1)) (hs : zh σ a = (kd, n)) (hk : kd = 1 ∨ kd = 2 ∨ kd = 3 ∨ kd = 4) (k : zR g d mm σ0 Q (pc + 1) l (zI n :: st) kw σ M) : zR g d mm σ0 Q pc l (zA g a :: st) kw σ M := by
  intro la p e s m args below meth c B H locs ls hA hS hH hl
  have kk := k la p e s m args below meth c B H locs ls hA hS hH hl
  have hc := zc_arr (hH.1 a) hs (by omega) (by omega)
  have hK := B.2.2.2.2.2.2.2.2.1.2
  have e : ∀ z : Nat → Value, (arrV (g.2.2.1 kd) n z).slots.size.toInt32 = Int32.ofInt n := fun z => by rw [arrV_size]; rfl
  rcases hk with rfl | rfl | rfl | rfl
  · exact W.alen B.1 B.2.1 hc ((hK 0 _ rfl).1 n _) (e _) rfl rfl hd kk
  · exact W.alen B.1 B.2.1 hc ((hK 1 _ rfl).1 n _) (e _) rfl rfl hd kk
  · exact W.alen B.1 B.2.1 hc ((hK 2 _ rfl).1 n _) (e _) rfl rfl hd kk
  · exact W.alen B.1 B.2.1 hc ((hK 3 _ rfl).1 n _) (e _) rfl rfl hd kk
/-- the ends -/
theorem zr_ireturn {x : Int} (hd : decode d.2.1 pc = .ok (.ireturn, 1)) (hr : d.2.2.2.1 = some .int) (hk : kw = mm) (h : Q (some (zI x)) σ M) : zR g d mm σ0 Q pc l [zI x] kw σ M := by
  intro la p e s m args below meth c B H locs ls hA hS hH hl
  subst hk
  exact W.iret B.1 B.2.1 (B.2.2.2.1.trans hr) (fun t ht hW => ⟨⟨_, σ, M, rfl, h, by rw [ht]; exact hH, hA⟩, hS.F ht⟩) hS.2.2 hd B.2.2.2.2.1
theorem zr_zreturn {x : Int} (hd : decode d.2.1 pc = .ok (.ireturn, 1)) (hr : d.2.2.2.1 = some .boolean) (hx : x = 0 ∨ x = 1) (hk : kw = mm) (h : Q (some (zI x)) σ M) : zR g d mm σ0 Q pc l [zI x] kw σ M := by
  intro la p e s m args below meth c B H locs ls hA hS hH hl
  subst hk
  exact W.zret B.1 B.2.1 (B.2.2.2.1.trans hr) (by rcases hx with rfl | rfl <;> rfl) (fun t ht hW => ⟨⟨_, σ, M, rfl, h, by rw [ht]; exact hH, hA⟩, hS.F ht⟩) hS.2.2 hd B.2.2.2.2.1
theorem zr_lreturn {x : Int} (hd : decode d.2.1 pc = .ok (.lreturn, 1)) (hr : d.2.2.2.1 = some .long) (hk : kw = mm) (h : Q (some (zL x)) σ M) : zR g d mm σ0 Q pc l [zL x] kw σ M := by
  intro la p e s m args below meth c B H locs ls hA hS hH hl
  subst hk
  exact W.lret B.1 B.2.1 (B.2.2.2.1.trans hr) (fun t ht hW => ⟨⟨_, σ, M, rfl, h, by rw [ht]; exact hH, hA⟩, hS.F ht⟩) hS.2.2 hd B.2.2.2.2.1
theorem zr_return (hd : decode d.2.1 pc = .ok (.return_, 1)) (hr : d.2.2.2.1 = none) (hk : kw = mm) (h : Q none σ M) : zR g d mm σ0 Q pc l [] kw σ M := by
  intro la p e s m args below meth c B H locs ls hA hS hH hl
  subst hk
  exact W.vret B.1 B.2.1 (B.2.2.2.1.trans hr) (fun t ht hW => ⟨⟨_, σ, M, rfl, h, by rw [ht]; exact hH, hA⟩, hS.F ht⟩) hS.2.2 hd B.2.2.2.2.1
/-- the entry -/
theorem zC_of {as : List Value} (hy : plainName d.1.cls = true) (hle : (lg_sl as).length ≤ d.2.2.1) (h : zR g d mm σ Q 0 (lv_args 0 as) [] (0, 0) σ M) : zC g d mm as σ M Q := by
  intro la
  refine Met.ofW (cc := d.2.1) (maxL := d.2.2.1) (ret := d.2.2.2.1) hy rfl ?_
  intro p e s m args below meth c s₁ B hml hv
  obtain ⟨rfl, hH, hK, hX, hz⟩ := hv
  have hts : ∀ w ∈ zw d, w.before as.toArray s = true := atoms_spec (ws := zw d) B.pre
  have hB : zB g d p s m as.toArray meth c := ⟨B.exec, B.bytes, hml, B.returns, B.notSynchronized, findClass_of_methodNamed B.named, fun w hw => hts w (List.mem_cons_of_mem _ hw), (name_of_methodNamed B.named B.method).1, hK, hX, hz⟩
  rw [lg_entry_eq]
  exact h la p e s m as.toArray below meth c hB s.heap [] _ rfl va_S.rf hH (lv_entry as hle)
end ZR3
