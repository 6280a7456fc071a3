/-! one line, as the class reads it -/
def byF (A : zM) : zM := pst A (xpS (A 4) (A 5) (if A 4 (A 7 4) = 1 ∧ A 6 (A 7 4) = 14 then 1 else 0) (gst A))
def sizF (M : zM) : zM := numF 1 8 8 1 (byF (numF 3 12 8 0 M))
def xyI (M : zM) : Int := nmV (M 4) (M 6) 0 (M 8 1 - 1) (gst (nmF 0 (M 8 0 - 1) M)) * M 8 0 + nmV (M 4) (M 6) 0 (M 8 0 - 1) (gst M)
def heaF (M : zM) : zM := if (nmF 1 50 (nmF 0 (M 8 1 - 1) (nmF 0 (M 8 0 - 1) M))) 7 2 = 0 then zu (zu (nmF 1 50 (nmF 0 (M 8 1 - 1) (nmF 0 (M 8 0 - 1) M))) 10 (xyI M) (M 10 (xyI M) + nmV (M 4) (M 6) 1 50 (gst (nmF 0 (M 8 1 - 1) (nmF 0 (M 8 0 - 1) M))))) 8 5 (M 8 5 + 1) else nmF 1 50 (nmF 0 (M 8 1 - 1) (nmF 0 (M 8 0 - 1) M))
def graF (M : zM) : zM := if (nmF 0 (M 8 1 - 1) (nmF 0 (M 8 0 - 1) M)) 7 2 = 0 then (if M 11 (xyI M) = 1 then zu (pst M (rfS (M 5) 3 ((nmF 0 (M 8 0 - 1) M) 7 4) (gst (nmF 0 (M 8 1 - 1) (nmF 0 (M 8 0 - 1) M))))) 11 (xyI M) 1 else zu (nmF 0 (M 8 1 - 1) (nmF 0 (M 8 0 - 1) M)) 11 (xyI M) 1) else nmF 0 (M 8 1 - 1) (nmF 0 (M 8 0 - 1) M)
def wayC (M : zM) : Int := if M 4 (M 7 4) = 1 ∧ 10 ≤ M 6 (M 7 4) ∧ M 6 (M 7 4) ≤ 13 then 1 else 0
def winA (i : Int) (M : zM) : zM := zu (pst M (xpS (M 4) (M 5) (wayC M) (gst M))) 12 i (M 6 (M 7 4) - 10)
def winB (i : Int) (M : zM) : zM := zu (numF 1 99 13 i (winA i M)) 8 6 (M 8 6 + 1)
def winL : Nat → Int → zM → zM
  | 0, _, M => M
  | f + 1, i, M => if M 7 2 = 0 ∧ ¬ (0 < i ∧ M 4 (M 7 4) = 3) then winL f (i + 1) (winB i M) else M
def resF (ln : Int) (M : zM) : zM := if ln = 0 then sizF M else if ln = 1 then numF 0 9 8 2 M else if ln = 2 then heaF M else if ln = 3 then graF M else if ln = 4 then winL 8 0 (zu M 8 6 0) else if ln = 5 then numF 1 6 9 0 M else if ln = 6 then numF 1 9 9 1 M else if ln = 7 then numF 1 9 8 3 M else if ln = 8 then numF 0 16 9 3 (numF 0 16 9 2 M) else numF 0 9999 8 4 M
/-- the number of a line's word -/
def lnW (M : zM) : Int := if M 4 (M 7 4) = 1 then M 6 (M 7 4) else -1
/-- the fault of a line's word (0: none; 5: the token itself can't stand) -/
noncomputable def lnX (n : Int) (M : zM) : Int := if lnW M < 0 ∨ 9 < lnW M then 5 else if (lnW M = 0 ∧ 0 < n) ∨ (lnW M = 2 ∧ 20 ≤ M 8 5) then 2 else if lnW M ≠ 2 ∧ lnW M ≠ 3 ∧ zb (bt (M 8 7) (lnW M)) = 1 then 3 else 0
noncomputable def lwS (n : Int) (M : zM) : Rs := if lnX n M = 5 then rtS (M 4) (M 5) (gst M) else if lnX n M = 0 then adS (M 4) (gst M) else rfS (M 5) (lnX n M) (M 7 4) (gst M)
noncomputable def lnbF (n : Int) (M : zM) : zM := if lnX n M = 0 then resF (lnW M) (zu (pst M (adS (M 4) (gst M))) 8 7 (sbt (M 8 7) (lnW M))) else pst M (lwS n M)
def sgF (Y : zM) : zM := pst Y (xpS (Y 4) (Y 5) (if Y 4 (Y 7 4) = 3 then 1 else 0) (gst Y))
noncomputable def linF (n : Int) (M : zM) : zM := sgF (lnbF n M)
noncomputable def rdL : Nat → Int → zM → zM
  | 0, _, X => X
  | f + 1, n, X => if X 7 2 = 0 ∧ X 4 (X 7 4) ≠ 0 then rdL f (n + 1) (linF n X) else X
/-- what holds of the draft all along -/
def cI (M : zM) : Prop := Geo (M 8 0) (M 8 1) ∧ (0 ≤ M 8 5 ∧ M 8 5 ≤ 20) ∧ (0 ≤ M 8 7 ∧ M 8 7 < 1024) ∧ ∀ c : Int, 0 ≤ c → c < 96 → 0 ≤ M 11 c ∧ M 11 c ≤ 1
section RD2
variable {g : zG} {o : Bool} {M N : zM} {K Pl V : Int → Int} {s s' : Rs} {lo hi x c wh t n : Int} {a : Nat}
theorem nmF_o {b : Nat} (h : b ≠ 7) : nmF lo hi M b = M b := pst_o h
theorem nmF_g : gst (nmF lo hi M) = nmS (M 4) (M 5) (M 6) lo hi (gst M) := gst_pst
theorem rdO.nm (h : rdO M) : rdO (nmF lo hi M) := rdO_pst.mpr (rdK.nm h)
theorem rdO.num {f : Int} (h : rdO M) (h4 : a ≠ 4) (h6 : a ≠ 6) (h7 : a ≠ 7) : rdO (numF lo hi a f M) := (h.nm).zu h4 h6 h7
theorem numF_o {f : Int} {b : Nat} (h : b ≠ 7) (ha : b ≠ a) : numF lo hi a f M b = M b := by unfold numF; rw [zu_other ha, nmF_o h]
theorem rdO.by_ (h : rdO M) : rdO (byF M) := rdO_pst.mpr (rdK.xp h)
theorem rdO.sg (h : rdO M) : rdO (sgF M) := rdO_pst.mpr (rdK.xp h)
theorem rdO.tk (h : rdO M) : (0 ≤ M 7 4 ∧ M 7 4 < 901) ∧ (0 ≤ M 4 (M 7 4) ∧ M 4 (M 7 4) ≤ 4) ∧ (M 4 (M 7 4) = 1 → -1 ≤ M 6 (M 7 4) ∧ M 6 (M 7 4) ≤ 14) ∧ (M 4 (M 7 4) = 2 → 0 ≤ M 6 (M 7 4) ∧ M 6 (M 7 4) ≤ 9999) ∧ 0 ≤ M 7 2 ∧ M 7 2 ≤ 4 := by
  obtain ⟨r1, r2, r3, r4, r5, r6⟩ := rdK.rng h
  have e1 : (gst M).1 = M 7 4 := rfl
  have e2 : (gst M).2.1 = M 7 2 := rfl
  rw [e1] at r1 r2 r4 r5
  rw [e2] at r6
  exact ⟨by omega, r2, r4, r5, r6⟩
theorem c_readSize (h : rdO M) : zKv g (z1 o) mX4_readSize [zA g 7] M (fun N => N = sizF M) := by
  have hA : rdO (numF 3 12 8 0 M) := h.num (by decide) (by decide) (by decide)
  have hB : rdO (byF (numF 3 12 8 0 M)) := hA.by_
  obtain ⟨t1, t2, t3, t4, t5⟩ := hA.tk
  have fin : ∀ (cc : Int) (N13 : zM), cc = (if numF 3 12 8 0 M 4 (numF 3 12 8 0 M 7 4) = 1 ∧ numF 3 12 8 0 M 6 (numF 3 12 8 0 M 7 4) = 14 then 1 else 0) → N13 = pst (numF 3 12 8 0 M) (xpS (numF 3 12 8 0 M 4) (numF 3 12 8 0 M 5) cc (gst (numF 3 12 8 0 M))) → (rdO N13) ∧ ∀ (r15 : Int) (N17 : zM), r15 = nmV (N13 4) (N13 6) 1 8 (gst N13) → N17 = pst N13 (nmS (N13 4) (N13 5) (N13 6) 1 8 (gst N13)) → zu N17 8 1 r15 = sizF M := fun cc N13 e1 e2 => by
    have e : N13 = byF (numF 3 12 8 0 M) := by rw [e2, e1]; rfl
    rw [e]
    exact ⟨hB, fun r N17 e3 e4 => by rw [e3, e4]; rfl⟩
  refine zkv_of rfl (Nat.le_of_ble_eq_true rfl) (SX4_readSize_0 ⟨h, fun r2 N4 e1 e2 => ?_⟩)
  have eA : zu N4 8 0 r2 = numF 3 12 8 0 M := by rw [e1, e2]; rfl
  rw [eA]
  refine ⟨t1, by omega, fun z => ⟨hA, fun N13 e => fin 0 N13 (by rw [if_neg (fun w => z w.1)]) e⟩, fun z => ⟨by have := t3 z; omega, fun w => ⟨hA, fun N e => fin 0 N (by rw [if_neg (fun y => w y.2)]) e⟩, fun w => ⟨hA, fun N e => fin 1 N (by rw [if_pos ⟨z, w⟩]) e⟩⟩⟩
theorem xyI_in (h : rdO M) (hc : cI M) : 0 ≤ xyI M ∧ xyI M < M 8 0 * M 8 1 := by
  obtain ⟨hG, -⟩ := hc
  obtain ⟨g1, g2, g3, g4⟩ := id hG
  have hA : rdK (M 4) (M 6) (gst (nmF 0 (M 8 0 - 1) M)) := by rw [nmF_g]; exact rdK.nm h
  have v1 := nmV_in (lo := 0) (hi := M 8 0 - 1) (K := M 4) (V := M 6) (s := gst M) h (by omega)
  have v2 := nmV_in (lo := 0) (hi := M 8 1 - 1) hA (by omega)
  unfold xyI
  rw [Int.mul_comm (nmV (M 4) (M 6) 0 (M 8 1 - 1) (gst (nmF 0 (M 8 0 - 1) M))) (M 8 0)]
  exact cell_in (by omega) (by omega)
theorem c_readHeap (h : rdO M) (hc : cI M) : zKv g (z1 o) mX4_readHeap [zA g 7] M (fun N => N = heaF M) := by
  have hx := xyI_in h hc
  obtain ⟨hG, -⟩ := hc
  have hn := geo_n hG
  obtain ⟨g1, g2, g3, g4⟩ := id hG
  have hA : rdO (nmF 0 (M 8 0 - 1) M) := h.nm
  have hB : rdO (nmF 0 (M 8 1 - 1) (nmF 0 (M 8 0 - 1) M)) := hA.nm
  have hD : rdO (nmF 1 50 (nmF 0 (M 8 1 - 1) (nmF 0 (M 8 0 - 1) M))) := hB.nm
  refine zkv_of rfl (Nat.le_of_ble_eq_true rfl) (SX4_readHeap_0 ⟨h, by omega, fun r3 N5 e3 e5 => ?_⟩)
  have e5 : N5 = nmF 0 (M 8 0 - 1) M := e5
  have m8 : N5 8 = M 8 := by rw [e5]; exact nmF_o (by decide)
  have m4 : N5 4 = M 4 := by rw [e5]; exact nmF_o (by decide)
  have m6 : N5 6 = M 6 := by rw [e5]; exact nmF_o (by decide)
  rw [m8]
  refine ⟨by rw [e5]; exact hA, by omega, fun r8 N10 e8 e10 => ?_⟩
  have e10 : N10 = nmF 0 (M 8 1 - 1) (nmF 0 (M 8 0 - 1) M) := by rw [e10, ← e5]; rfl
  refine ⟨by rw [e10]; exact hB, fun r12 N14 e12 e14 => ?_⟩
  have e14 : N14 = nmF 1 50 (nmF 0 (M 8 1 - 1) (nmF 0 (M 8 0 - 1) M)) := by rw [e14, ← e10]; rfl
  have t := hD.tk.2.2.2.2
  rw [← e14] at t
  have k8 : N14 8 = M 8 := by rw [e14, nmF_o (by decide), nmF_o (by decide), nmF_o (by decide)]
  have k10 : N14 10 = M 10 := by rw [e14, nmF_o (by decide), nmF_o (by decide), nmF_o (by decide)]
  have ex : r8 * N14 8 0 + r3 = xyI M := by rw [k8, e8, e3, m4, m6, e5]; rfl
  have e12' : r12 = nmV (M 4) (M 6) 1 50 (gst (nmF 0 (M 8 1 - 1) (nmF 0 (M 8 0 - 1) M))) := by rw [e12, e10, nmF_o (by decide), nmF_o (by decide), nmF_o (by decide), nmF_o (by decide)]
  refine ⟨by omega, fun z => ?_, fun z => ?_⟩
  · unfold heaF; rw [← e14, if_neg z]
  · rw [ex]
    refine ⟨by omega, fun N17 e17 => ?_⟩
    unfold heaF
    rw [← e14, if_pos z, e17, zu_other (by decide), k8, k10, e12']
theorem c_readGrass (h : rdO M) (hc : cI M) : zKv g (z1 o) mX4_readGrass [zA g 7] M (fun N => N = graF M) := by
  have hx := xyI_in h hc
  obtain ⟨hG, -, -, hgr⟩ := hc
  have hn := geo_n hG
  obtain ⟨g1, g2, g3, g4⟩ := id hG
  have hA : rdO (nmF 0 (M 8 0 - 1) M) := h.nm
  have hB : rdO (nmF 0 (M 8 1 - 1) (nmF 0 (M 8 0 - 1) M)) := hA.nm
  refine zkv_of rfl (Nat.le_of_ble_eq_true rfl) (SX4_readGrass_0 ⟨h, by omega, fun r3 N5 e3 e5 => ?_⟩)
  have e5 : N5 = nmF 0 (M 8 0 - 1) M := e5
  have m8 : N5 8 = M 8 := by rw [e5]; exact nmF_o (by decide)
  have m4 : N5 4 = M 4 := by rw [e5]; exact nmF_o (by decide)
  have m6 : N5 6 = M 6 := by rw [e5]; exact nmF_o (by decide)
  rw [m8]
  refine ⟨by rw [e5]; exact hA, by omega, fun r8 N10 e8 e10 => ?_⟩
  have e10 : N10 = nmF 0 (M 8 1 - 1) (nmF 0 (M 8 0 - 1) M) := by rw [e10, ← e5]; rfl
  have t := hB.tk.2.2.2.2
  have t4 := hA.tk.1
  rw [← e10] at t
  rw [← e5] at t4
  have k8 : N10 8 = M 8 := by rw [e10, nmF_o (by decide), nmF_o (by decide)]
  have k11 : N10 11 = M 11 := by rw [e10, nmF_o (by decide), nmF_o (by decide)]
  have k5 : N10 5 = M 5 := by rw [e10, nmF_o (by decide), nmF_o (by decide)]
  have ex : r8 * N10 8 0 + r3 = xyI M := by rw [k8, e8, e3, m4, m6, e5]; rfl
  rw [ex, k11]
  have hv := hgr (xyI M) hx.1 (by omega)
  refine ⟨by omega, fun z => ⟨by omega, by omega, fun w => ?_, fun w => ⟨by rw [e10]; exact hB, t4, fun N18 e18 => ?_⟩⟩, fun z => ?_⟩
  · unfold graF; rw [← e10, if_pos z, if_neg w]
  · unfold graF
    rw [← e5] at e10 ⊢
    rw [← e10, if_pos z, if_pos w, e18, k5]
    congr 1
    rw [e10, e5]
    unfold nmF
    rw [pst_pst, pst_pst]
  · unfold graF; rw [← e10, if_neg z]
theorem rdO.winB {i : Int} (h : rdO M) : rdO (winB i M) := by
  have h1 : rdO (winA i M) := (rdO_pst.mpr (rdK.xp h)).zu (by decide) (by decide) (by decide)
  exact (h1.num (by decide) (by decide) (by decide)).zu (by decide) (by decide) (by decide)
theorem c_readWind (h : rdO M) : zKv g (z1 o) mX4_readWind [zA g 7] M (fun N => N = winL 8 0 (zu M 8 6 0)) := by
  refine zkv_of rfl (Nat.le_of_ble_eq_true rfl) (SX4_readWind_0 ?_)
  suffices hs : ∀ (f i : Nat) (P : zM), i + f = 8 → rdO P → zT g (z1 o) mX4_readWind (zQv (z1 o) (fun N => N = winL f i P)) 10 [(0, zA g 7), (1, zI i)] [] P from hs 8 0 _ rfl (h.zu (by decide) (by decide) (by decide))
  intro f
  induction f with
  | zero => intro i P hi hP; exact SX4_readWind_10 ⟨by omega, fun _ => rfl, fun z => by omega⟩
  | succ f ih =>
    intro i P hi hP
    obtain ⟨t1, t2, t3, t4, t5⟩ := hP.tk
    have wt : P 7 2 = 0 ∧ ¬ (0 < (i : Int) ∧ P 4 (P 7 4) = 3) → winL (f + 1) i P = winL f ((i : Int) + 1) (winB i P) := fun z => by show (if _ then _ else _) = _; rw [if_pos z]
    have wf : ¬ (P 7 2 = 0 ∧ ¬ (0 < (i : Int) ∧ P 4 (P 7 4) = 3)) → P = winL (f + 1) i P := fun z => by show _ = (if _ then _ else _); rw [if_neg z]
    have stp : P 7 2 = 0 ∧ ¬ (0 < (i : Int) ∧ P 4 (P 7 4) = 3) → zT g (z1 o) mX4_readWind (zQv (z1 o) (fun N => N = winL (f + 1) i P)) 36 [(0, zA g 7), (1, zI i)] [] P := fun z => by
      rw [wt z]
      have nx := ih (i + 1) (winB i P) (by omega) hP.winB
      have fin : ∀ (cc : Int), cc = wayC P → ∀ N12 : zM, N12 = pst P (xpS (P 4) (P 5) cc (gst P)) → (0 ≤ (i : Int) ∧ (i : Int) < 8) ∧ (rdO (zu N12 12 i ((P 6 (P 7 4)) - 10))) ∧ ∀ (r15 : Int) (N17 : zM), r15 = nmV ((zu N12 12 i ((P 6 (P 7 4)) - 10)) 4) ((zu N12 12 i ((P 6 (P 7 4)) - 10)) 6) 1 99 (gst (zu N12 12 i ((P 6 (P 7 4)) - 10))) → N17 = pst (zu N12 12 i ((P 6 (P 7 4)) - 10)) (nmS ((zu N12 12 i ((P 6 (P 7 4)) - 10)) 4) ((zu N12 12 i ((P 6 (P 7 4)) - 10)) 5) ((zu N12 12 i ((P 6 (P 7 4)) - 10)) 6) 1 99 (gst (zu N12 12 i ((P 6 (P 7 4)) - 10)))) → ∀ N18 : zM, N18 = zu N17 13 i r15 → zT g (z1 o) mX4_readWind (zQv (z1 o) (fun N => N = winL f ((i : Int) + 1) (winB i P))) 10 [(0, zA g 7), (1, zI ((i : Int) + 1))] [] (zu N18 8 6 ((N18 8 6) + 1)) := by
        intro cc ecc N12 e12
        have eA : zu N12 12 i (P 6 (P 7 4) - 10) = winA i P := by rw [e12, ecc]; rfl
        have hA : rdO (winA i P) := (rdO_pst.mpr (rdK.xp hP)).zu (by decide) (by decide) (by decide)
        rw [eA]
        refine ⟨by omega, hA, fun r15 N17 e15 e17 N18 e18 => ?_⟩
        have e18' : N18 = numF 1 99 13 i (winA i P) := by rw [e18, e17, e15]; rfl
        have k8 : N18 8 = P 8 := by
          rw [e18', numF_o (by decide) (by decide)]
          unfold winA; rw [zu_other (by decide), pst_o (by decide)]
        rw [k8, e18']
        exact nx
      refine SX4_readWind_36 ⟨t1, by omega, fun y => ⟨hP, fun N e => fin 0 (by unfold wayC; rw [if_neg (fun u => y u.1)]) N e⟩, fun y => ⟨by have := t3 y; omega, fun w => ⟨hP, fun N e => fin 0 (by unfold wayC; rw [if_neg (fun u => by have := u.2.1; omega)]) N e⟩, fun w => ⟨fun u => ⟨hP, fun N e => fin 0 (by unfold wayC; rw [if_neg (fun u' => by have := u'.2.2; omega)]) N e⟩, fun u => ⟨hP, fun N e => fin 1 (by unfold wayC; rw [if_pos ⟨y, by omega, by omega⟩]) N e⟩⟩⟩⟩
    refine SX4_readWind_10 ⟨by omega, fun z => by omega, fun _ => ⟨by omega, fun z => wf (fun w => z w.1), fun z => ⟨fun w => stp ⟨z, fun u => by omega⟩, fun w => ⟨t1, by omega, fun u => stp ⟨z, fun u' => u u'.2⟩, fun u => wf (fun u' => u'.2 ⟨by omega, u⟩)⟩⟩⟩⟩
theorem c_readRest (h : rdO M) (hc : cI M) (hx : 0 ≤ x ∧ x ≤ 9) : zKv g (z1 o) mX4_readRest [zA g 7, zI x] M (fun N => N = resF x M) := by
  have e0 : x = 0 → resF x M = sizF M := fun z => by unfold resF; rw [if_pos z]
  have e1 : x = 1 → resF x M = numF 0 9 8 2 M := fun z => by unfold resF; rw [if_neg (by omega), if_pos z]
  have e2 : x = 2 → resF x M = heaF M := fun z => by unfold resF; rw [if_neg (by omega), if_neg (by omega), if_pos z]
  have e3 : x = 3 → resF x M = graF M := fun z => by unfold resF; rw [if_neg (by omega), if_neg (by omega), if_neg (by omega), if_pos z]
  have e4 : x = 4 → resF x M = winL 8 0 (zu M 8 6 0) := fun z => by unfold resF; rw [if_neg (by omega), if_neg (by omega), if_neg (by omega), if_neg (by omega), if_pos z]
  have e5 : x = 5 → resF x M = numF 1 6 9 0 M := fun z => by unfold resF; rw [if_neg (by omega), if_neg (by omega), if_neg (by omega), if_neg (by omega), if_neg (by omega), if_pos z]
  have e6 : x = 6 → resF x M = numF 1 9 9 1 M := fun z => by unfold resF; rw [if_neg (by omega), if_neg (by omega), if_neg (by omega), if_neg (by omega), if_neg (by omega), if_neg (by omega), if_pos z]
  have e7 : x = 7 → resF x M = numF 1 9 8 3 M := fun z => by unfold resF; rw [if_neg (by omega), if_neg (by omega), if_neg (by omega), if_neg (by omega), if_neg (by omega), if_neg (by omega), if_neg (by omega), if_pos z]
  have e8 : x = 8 → resF x M = numF 0 16 9 3 (numF 0 16 9 2 M) := fun z => by unfold resF; rw [if_neg (by omega), if_neg (by omega), if_neg (by omega), if_neg (by omega), if_neg (by omega), if_neg (by omega), if_neg (by omega), if_neg (by omega), if_pos z]
  have e9 : x < 0 ∨ 8 < x → resF x M = numF 0 9999 8 4 M := fun z => by unfold resF; rw [if_neg (by omega), if_neg (by omega), if_neg (by omega), if_neg (by omega), if_neg (by omega), if_neg (by omega), if_neg (by omega), if_neg (by omega), if_neg (by omega)]
  refine zkv_of rfl (Nat.le_of_ble_eq_true rfl) (SX4_readRest_0 ⟨by omega, fun z => ⟨_, c_readSize h, fun N e => by rw [e, e0 z]⟩, fun z => ⟨h, fun r N a b => by rw [a, b, e1 z]; rfl⟩, fun z => ⟨_, c_readHeap h hc, fun N e => by rw [e, e2 z]⟩, fun z => ⟨_, c_readGrass h hc, fun N e => by rw [e, e3 z]⟩, fun z => ⟨_, c_readWind h, fun N e => by rw [e, e4 z]⟩, fun z => ⟨h, fun N e => by rw [e, e5 z]⟩, fun z => ⟨h, fun N e => by rw [e, e6 z]⟩, fun z => ⟨h, fun r N a b => by rw [a, b, e7 z]; rfl⟩, fun z => ⟨h, fun N e => ⟨by rw [e]; exact h.num (by decide) (by decide) (by decide), fun N' e' => by rw [e', e, e8 z]⟩⟩, fun z => ⟨h, fun r N a b => by rw [a, b, e9 z]; rfl⟩⟩)
theorem c_readLineWord (h : rdO M) (hc : cI M) (hn : 0 ≤ n ∧ n ≤ 1000) : zKi g (z1 o) mX4_readLineWord [zA g 7, zI n] M (fun r N => r = lnW M ∧ N = pst M (lwS n M)) := by
  obtain ⟨t1, t2, t3, t4, t5⟩ := h.tk
  obtain ⟨hG, c5, c7, -⟩ := hc
  have w0 : M 4 (M 7 4) ≠ 1 → lnW M = -1 := fun z => by unfold lnW; rw [if_neg z]
  have w1 : M 4 (M 7 4) = 1 → lnW M = M 6 (M 7 4) := fun z => by unfold lnW; rw [if_pos z]
  have x5 : lnW M < 0 ∨ 9 < lnW M → lwS n M = rtS (M 4) (M 5) (gst M) := fun z => by
    have : lnX n M = 5 := by unfold lnX; rw [if_pos z]
    unfold lwS; rw [if_pos this]
  have x2 : ¬ (lnW M < 0 ∨ 9 < lnW M) → ((lnW M = 0 ∧ 0 < n) ∨ (lnW M = 2 ∧ 20 ≤ M 8 5)) → lwS n M = rfS (M 5) 2 (M 7 4) (gst M) := fun z y => by
    have : lnX n M = 2 := by unfold lnX; rw [if_neg z, if_pos y]
    unfold lwS; rw [this, if_neg (by decide), if_neg (by decide)]
  have x3 : ¬ (lnW M < 0 ∨ 9 < lnW M) → ¬ ((lnW M = 0 ∧ 0 < n) ∨ (lnW M = 2 ∧ 20 ≤ M 8 5)) → (lnW M ≠ 2 ∧ lnW M ≠ 3 ∧ bt (M 8 7) (lnW M)) → lwS n M = rfS (M 5) 3 (M 7 4) (gst M) := fun z y u => by
    have : lnX n M = 3 := by unfold lnX; rw [if_neg z, if_neg y, if_pos ⟨u.1, u.2.1, zb_t u.2.2⟩]
    unfold lwS; rw [this, if_neg (by decide), if_neg (by decide)]
  have x0 : ¬ (lnW M < 0 ∨ 9 < lnW M) → ¬ ((lnW M = 0 ∧ 0 < n) ∨ (lnW M = 2 ∧ 20 ≤ M 8 5)) → ¬ (lnW M ≠ 2 ∧ lnW M ≠ 3 ∧ bt (M 8 7) (lnW M)) → lwS n M = adS (M 4) (gst M) := fun z y u => by
    have : lnX n M = 0 := by unfold lnX; rw [if_neg z, if_neg y, if_neg (fun w => u ⟨w.1, w.2.1, zb_1.mp w.2.2⟩)]
    unfold lwS; rw [this, if_neg (by decide), if_pos rfl]
  have c71 : M 4 (M 7 4) = 1 → ¬ (lnW M < 0 ∨ 9 < lnW M) → ¬ ((lnW M = 0 ∧ 0 < n) ∨ (lnW M = 2 ∧ 20 ≤ M 8 5)) → zT g (z1 o) mX4_readLineWord (zQi (z1 o) (fun r N => r = lnW M ∧ N = pst M (lwS n M))) 71 [(0, zA g 7), (2, zI (M 6 (M 7 4)))] [] M := fun z y u => by
    rw [← w1 z]
    exact SX4_readLineWord_71 ⟨by omega, fun a => ⟨h, fun N e => ⟨rfl, by rw [e, x0 y u (fun w => w.1 a)]⟩⟩, fun a => ⟨fun b => ⟨h, fun N e => ⟨rfl, by rw [e, x0 y u (fun w => w.2.1 b)]⟩⟩, fun b => ⟨by omega, c7, fun d => ⟨h, fun N e => ⟨rfl, by rw [e, x0 y u (fun w => d w.2.2)]⟩⟩, fun d => ⟨h, t1, fun N e => ⟨rfl, by rw [e, x3 y u ⟨a, b, d⟩]⟩⟩⟩⟩⟩
  refine zki_of rfl (Nat.le_of_ble_eq_true rfl) (SX4_readLineWord_0 ⟨t1, by omega, fun z => ⟨h, fun N e => ⟨(w0 z).symm, by rw [e, x5 (by rw [w0 z]; decide)]⟩⟩, fun z => ?_⟩)
  have v := t3 z
  have wz := w1 z
  refine ⟨by omega, fun y => ⟨h, fun N e => ⟨wz.symm, by rw [e, x5 (by omega)]⟩⟩, fun y => ⟨fun u => ⟨fun a => ⟨fun b => c71 z (by omega) (by omega), fun b => ⟨by omega, fun d => c71 z (by omega) (by omega), fun d => ⟨h, t1, fun N e => ⟨wz.symm, by rw [e, x2 (by omega) (by omega)]⟩⟩⟩⟩, fun a => ⟨by omega, fun b => ⟨h, t1, fun N e => ⟨wz.symm, by rw [e, x2 (by omega) (by omega)]⟩⟩, fun b => ⟨fun d => c71 z (by omega) (by omega), fun d => by omega⟩⟩⟩, fun u => ⟨h, fun N e => ⟨wz.symm, by rw [e, x5 (by omega)]⟩⟩⟩⟩
end RD2
