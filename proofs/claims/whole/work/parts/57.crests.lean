/-- the longest of lines by their sizes -/
def lgs (F : Int → Int) : Nat → Int × Int
  | 0 => (0, -1)
  | k + 1 => if (lgs F k).1 < F k then (F k, (k : Int)) else lgs F k
section CR
variable {g g' : zG} {o o' : Bool} {M M' M1 M2 N N1 N2 : zM} {k C R c d m x w x1 : Int} {L H H' : Int → Int}
theorem lgs_in {F : Int → Int} (n : Nat) (h : ∀ i : Nat, i < n → 0 ≤ F i ∧ F i ≤ 96) : (0 ≤ (lgs F n).1 ∧ (lgs F n).1 ≤ 96) ∧ -1 ≤ (lgs F n).2 ∧ (lgs F n).2 < n := by
  induction n with
  | zero => exact ⟨⟨Int.le_refl _, by show (0 : Int) ≤ 96; decide⟩, Int.le_refl _, by show (-1 : Int) < ((0 : Nat) : Int); decide⟩
  | succ n ih =>
    have i1 := ih (fun i hi => h i (by omega))
    have i2 := h n (by omega)
    show (0 ≤ (if (lgs F n).1 < F n then (F n, (n : Int)) else lgs F n).1 ∧ (if (lgs F n).1 < F n then (F n, (n : Int)) else lgs F n).1 ≤ 96) ∧ -1 ≤ (if (lgs F n).1 < F n then (F n, (n : Int)) else lgs F n).2 ∧ (if (lgs F n).1 < F n then (F n, (n : Int)) else lgs F n).2 < ((n + 1 : Nat) : Int)
    split
    · exact ⟨i2, by show -1 ≤ (n : Int); omega, by show (n : Int) < _; omega⟩
    · exact ⟨i1.1, i1.2.1, by omega⟩
theorem crest_cg (hG : Geo C R) (hc : 0 ≤ c ∧ c < C * R) (h : ∀ i : Int, 0 ≤ i → i < 96 → H i = H' i) : crest C R H c w ↔ crest C R H' c w := by
  have hn := geo_n hG
  have a1 := alg_in (w := opp w) (k := 1) hG hc
  have a2 := alg_in (w := w) (k := 1) hG hc
  unfold crest
  rw [h c hc.1 (by omega), h _ a1.1 (by omega), h _ a2.1 (by omega)]
theorem c_laysCrests (h : zRf M C R) (hO : rOK C R 1000000 1000000 (M 10)) : zKi g (z2 o) mX10_laysCrests [zA g 1] M (fun r M' => r = (joi (fun c => crest C R (M 10) c (wnr M (M 10 197))) (T9 C R) 9 (C * R).toNat).2 ∧ (∀ c : Int, 0 ≤ c → c < C * R → M' 13 c = (joi (fun c => crest C R (M 10) c (wnr M (M 10 197))) (T9 C R) 9 (C * R).toNat).1 c) ∧ fr2 M M') := by
  have hG := h.1
  have hn := geo_n hG
  obtain ⟨n, hnn⟩ := znn (show 0 ≤ C * R by omega)
  have en : (C * R).toNat = n := by omega
  rw [en]
  obtain ⟨P, hP⟩ : ∃ P : Int → Prop, P = fun c => crest C R (M 10) c (wnr M (M 10 197)) := ⟨_, rfl⟩
  rw [← hP]
  refine zki_of rfl (Nat.le_of_ble_eq_true rfl) (SX10_laysCrests_0 ⟨_, c_goesOn, fun A hg => ?_⟩)
  obtain ⟨g1, g2, g3, g4, g5, g6⟩ := hg
  have hA : zRf A C R := h.of (g5 3 (by decide) (by decide)) (g5 4 (by decide) (by decide)) (g5 5 (by decide) (by decide))
  have fA : fr2 M A := go_fr g5 g6
  have hh : (13 : Nat) = 13 ∨ (13 : Nat) = 14 := Or.inl rfl
  have hrf := hO.rf g1
  have hrk : ∀ N, rlF A N 13 → rOk N := fun N hF => by
    unfold rOk RefOK
    rw [hF.1 11 (by decide) (by decide) (by decide)]
    exact hrf
  have hcr : ∀ N, rlF A N 13 → ∀ x : Int, 0 ≤ x → x < C * R → (crest C R (N 11) x (wnr N (N 11 197)) ↔ P x) := fun N hF x a b => by
    rw [hF.1 11 (by decide) (by decide) (by decide), wnr_of (hF.1 3 (by decide) (by decide) (by decide)) (hF.1 4 (by decide) (by decide) (by decide)) (hF.1 5 (by decide) (by decide) (by decide)), wnr_of (g5 3 (by decide) (by decide)) (g5 4 (by decide) (by decide)) (g5 5 (by decide) (by decide)), ← g1 197 (by decide) (by decide), hP]
    exact crest_cg hG ⟨a, b⟩ (fun i p q => (g1 i p (by omega)).symm)
  have main : ∀ (j k : Nat) (M1 : zM), k + j = n → (∀ c : Int, 0 ≤ c → c < C * R → M1 13 c = (joi P (T9 C R) 9 k).1 c) → rlF A M1 13 → zT g (z2 o) mX10_laysCrests (zQi (z2 o) (fun r M' => r = (joi P (T9 C R) 9 n).2 ∧ (∀ c : Int, 0 ≤ c → c < C * R → M' 13 c = (joi P (T9 C R) 9 n).1 c) ∧ fr2 M M')) 31 [(0, zA g 1), (1, zI (joi P (T9 C R) 9 k).2), (2, zI k)] [] M1 := by
    intro j
    induction j with
    | zero =>
      intro k M1 hk hJ hF
      rw [show k = n by omega] at hJ ⊢
      exact SX10_laysCrests_31 (C := C) (R := R) ⟨hF.L hh hA, by omega, by omega, fun _ => ⟨rfl, hJ, fA.trans hF.fr⟩, fun h => by omega⟩
    | succ j ih =>
      intro k M1 hk hJ hF
      have hL1 := hF.L hh hA
      have hp := hcr M1 hF k (by omega) (by omega)
      obtain ⟨w1, w2, w3⟩ := joi_wf (P := P) (K := 9) hG (fun d hd j => T9_in hG hd j) k (by omega)
      have hr : -1 ≤ (joi P (T9 C R) 9 k).1 k ∧ (joi P (T9 C R) 9 k).1 k ≤ 96 := w1.2.2 k (by omega) (by omega)
      have el := hJ k (by omega) (by omega)
      refine SX10_laysCrests_31 (C := C) (R := R) ⟨hL1, by omega, by omega, fun h => by omega, fun _ => ⟨hrk M1 hF, by omega, fun h5 => ?_, fun h5 => ⟨by omega, by omega, fun h6 => ?_, fun h6 => ?_⟩⟩⟩
      · have hf : joi P (T9 C R) 9 (k + 1) = joi P (T9 C R) 9 k := joi_f (fun q => h5 (hp.mpr q.1))
        have := ih (k + 1) M1 (by omega) (by rw [hf]; exact hJ) hF
        rw [hf] at this; exact this
      · have hpk : P k := hp.mp h5
        obtain ⟨mm, hmm⟩ : ∃ v, v = (joi P (T9 C R) 9 k).2 := ⟨_, rfl⟩
        have ht := joi_t (T := T9 C R) (K := 9) ⟨hpk, el.symm.trans h6⟩
        have nx := ih (k + 1)
        rw [ht, ← hmm] at nx
        rw [← hmm]
        rw [← hmm] at w2 w3
        have hR0 : rlR (zu M1 1 33 0) 13 C R ((joi P (T9 C R) 9 k).1, []) := ⟨by rw [zu_at]; rfl, fun i hi => by simp at hi, fun c a1 a2 => by rw [zu_other (by omega)]; exact hJ c a1 a2⟩
        have hF0 : rlF A (zu M1 1 33 0) 13 := hF.trans ⟨fun a a1 _ _ => zu_other a1, fun i hi => by rw [zu_row, if_neg hi]⟩
        have wf1 : Wf C R (rchP P mm ((joi P (T9 C R) 9 k).1, []) k) := w1.rc (by omega) (by omega)
        refine ⟨_, c_piles (P := P) hh hG (by omega) hpk (el.symm.trans h6) hR0 w1, fun M14 hq => ?_⟩
        suffices hs : ∀ (f i : Nat) (s : Fl) (M2 : zM), i + f = 97 → Wf C R s → rlR M2 13 C R s → rlF A M2 13 → flo P mm (T9 C R) 9 97 0 (rchP P mm ((joi P (T9 C R) 9 k).1, []) k) = flo P mm (T9 C R) 9 f i s → zT g (z2 o) mX10_laysCrests (zQi (z2 o) (fun r M' => r = (joi P (T9 C R) 9 n).2 ∧ (∀ c : Int, 0 ≤ c → c < C * R → M' 13 c = (joi P (T9 C R) 9 n).1 c) ∧ fr2 M M')) 77 [(0, zA g 1), (1, zI mm), (2, zI k), (3, zI i)] [] M2 from hs 97 0 _ M14 rfl wf1 hq.1 (hF0.trans hq.2) rfl
        intro f
        induction f with
        | zero =>
          intro i s M2 hi hW2 hR2 hF2 he
          have := hW2.len hG
          have e := hR2.1
          refine SX10_laysCrests_77 ⟨by omega, by omega, fun _ => ?_, fun h => by omega⟩
          refine nx M2 (by omega) (fun c a1 a2 => ?_) hF2
          rw [he]; exact hR2.2.2 c a1 a2
        | succ f ihf =>
          intro i s M2 hi hW2 hR2 hF2 he
          have hl := hW2.len hG
          have e := hR2.1
          by_cases hlt : i < s.2.length
          · have ef : flo P mm (T9 C R) 9 (f + 1) i s = flo P mm (T9 C R) 9 f (i + 1) (rchs P mm (T9 C R) (s.2.getD i 0) 9 s) := by show (if _ then _ else _) = _; rw [if_pos hlt]
            rw [ef] at he
            have hc0 := hW2.2.1 i hlt
            refine SX10_laysCrests_77 ⟨by omega, by omega, fun h => by omega, fun _ => ?_⟩
            suffices hs2 : ∀ (j' w : Nat) (M3 : zM), w + j' = 9 → rlR M3 13 C R (rchs P mm (T9 C R) (s.2.getD i 0) w s) → rlF A M3 13 → zT g (z2 o) mX10_laysCrests (zQi (z2 o) (fun r M' => r = (joi P (T9 C R) 9 n).2 ∧ (∀ c : Int, 0 ≤ c → c < C * R → M' 13 c = (joi P (T9 C R) 9 n).1 c) ∧ fr2 M M')) 88 [(0, zA g 1), (1, zI mm), (2, zI k), (3, zI i), (4, zI w)] [] M3 from hs2 9 0 M2 rfl hR2 hF2
            intro j'
            induction j' with
            | zero =>
              intro w M3 hw hR3 hF3
              rw [show w = 9 by omega] at hR3 ⊢
              exact SX10_laysCrests_88 (C := C) (R := R) ⟨by omega, fun _ => ihf (i + 1) _ M3 (by omega) (hW2.rcs (fun j => T9_in hG hc0 j) (by omega) 9) hR3 hF3 he, fun h => by omega⟩
            | succ j' ih2 =>
              intro w M3 hw hR3 hF3
              have hL3 := hF3.L hh hA
              have wf3 : Wf C R (rchs P mm (T9 C R) (s.2.getD i 0) w s) := hW2.rcs (fun j => T9_in hG hc0 j) (by omega) w
              have gt := rchs_get (P := P) (m := mm) (T := T9 C R) (d := s.2.getD i 0) hlt w
              have eq : M3 15 i = s.2.getD i 0 := (hR3.2.1 i gt.1).trans gt.2
              have eT : alg C R (alg C R (s.2.getD i 0) 0 (((w : Int) % 3) + C - 1)) 1 (((w : Int) / 3) + R - 1) = T9 C R (s.2.getD i 0) w := rfl
              have a1 := T9_in hG hc0 w
              have hp1 := hcr M3 hF3 _ a1.1 a1.2
              have el3 := hR3.2.2 _ a1.1 a1.2
              have hr3 := wf3.2.2 _ a1.1 a1.2
              have nxt := ih2 (w + 1)
              have hg4 := hG.1
              have hg5 := hG.2.1
              have hg6 := hG.2.2.1
              have hg7 := hG.2.2.2
              refine SX10_laysCrests_88 (C := C) (R := R) ⟨by omega, fun h => by omega, fun _ => ⟨by omega, by omega, hL3, by rw [eq]; exact hc0, by omega, by omega, hrk M3 hF3, ?_⟩⟩
              rw [eq, eT]
              refine ⟨a1, fun h7 => ?_, fun h7 => ⟨by omega, by omega, fun h8 => ?_, fun h8 => ?_⟩⟩
              · refine nxt M3 (by omega) ?_ hF3
                show rlR M3 13 C R (rchP P mm _ (T9 C R (s.2.getD i 0) w))
                rw [rchP_f (fun q => h7 (hp1.mpr q.1))]; exact hR3
              · refine nxt M3 (by omega) ?_ hF3
                show rlR M3 13 C R (rchP P mm _ (T9 C R (s.2.getD i 0) w))
                rw [show rchP P mm (rchs P mm (T9 C R) (s.2.getD i 0) w s) (T9 C R (s.2.getD i 0) w) = rchs P mm (T9 C R) (s.2.getD i 0) w s from rchP_f (fun q => h8 (el3.trans q.2))]; exact hR3
              · refine ⟨_, c_piles (P := P) (m := mm) hh hG a1 (hp1.mp h7) (el3.symm.trans h8) hR3 wf3, fun M16 hq => nxt M16 (by omega) hq.1 (hF3.trans hq.2)⟩
          · have ef : flo P mm (T9 C R) 9 (f + 1) i s = s := by show (if _ then _ else _) = _; rw [if_neg hlt]
            rw [ef] at he
            refine SX10_laysCrests_77 ⟨by omega, by omega, fun _ => ?_, fun h => by omega⟩
            refine nx M2 (by omega) (fun c a1 a2 => ?_) hF2
            rw [he]; exact hR2.2.2 c a1 a2
      · have hf : joi P (T9 C R) 9 (k + 1) = joi P (T9 C R) 9 k := joi_f (fun q => h6 (el.trans q.2))
        have := ih (k + 1) M1 (by omega) (by rw [hf]; exact hJ) hF
        rw [hf] at this; exact this
  suffices hs : ∀ (j k : Nat) (M1 : zM), k + j = n → (∀ c : Int, 0 ≤ c → c < k → M1 13 c = -1) → rlF A M1 13 → zT g (z2 o) mX10_laysCrests (zQi (z2 o) (fun r M' => r = (joi P (T9 C R) 9 n).2 ∧ (∀ c : Int, 0 ≤ c → c < C * R → M' 13 c = (joi P (T9 C R) 9 n).1 c) ∧ fr2 M M')) 8 [(0, zA g 1), (1, zI 0), (2, zI k)] [] M1 from hs n 0 A (by omega) (fun c a1 a2 => by omega) rlF.rf
  intro j
  induction j with
  | zero =>
    intro k M1 hk hi hF
    exact SX10_laysCrests_8 (C := C) (R := R) ⟨hF.L hh hA, by omega, by omega, fun _ => main n 0 M1 (by omega) (fun c a1 a2 => hi c a1 (by omega)) hF, fun h => by omega⟩
  | succ j ih =>
    intro k M1 hk hi hF
    refine SX10_laysCrests_8 (C := C) (R := R) ⟨hF.L hh hA, by omega, by omega, fun h => by omega, fun _ => ⟨by omega, ih (k + 1) _ (by omega) (fun c a1 a2 => ?_) (hF.trans ⟨fun a _ _ a3 => zu_other a3, fun i _ => by rw [zu_other (by omega)]⟩)⟩⟩
    rw [zu_row]
    by_cases e : c = k
    · rw [if_pos e]
    · rw [if_neg e]; exact hi c a1 (by omega)
theorem p_crests (hJ : Jt k C R M1 M2) (hk : k < 1000) (h1 : -2147483648 ≤ x1 ∧ x1 ≤ 2147483647) : zE g g' o o' mX9_crests mX10_crests [zI x1] k M1 M2 := by
  obtain ⟨hL, hR⟩ := hJ.lr
  have hG := hL.1
  have hgn := geo_n hG
  have hw := wnd_in (t := M1 24 4) hL hJ.sok.2.2.2.2.2.2.2.1
  obtain ⟨n, hnn⟩ := znn (show 0 ≤ C * R by omega)
  have en : (C * R).toNat = n := by omega
  by_cases hx : 0 ≤ x1 ∧ x1 ≤ 2
  · obtain ⟨J, eJ⟩ : ∃ J, J = joi (fun c => crest C R (M2 10) c (wnr M2 (M2 10 197))) (T9 C R) 9 n := ⟨_, rfl⟩
    have e8 : joi (fun c => crest C R (M1 25) c (wnd M1 (M1 24 4))) (T8 C R) 8 (C * R).toNat = J := by
      rw [eJ, ← en, hJ.wq, ← hJ.es.2, ← joi_89 hG _ (Nat.le_refl _)]
      exact joi_cg hG (fun c a b => crest_cg hG ⟨a, b⟩ (fun i p q => hJ.eh i p q)) (fun d hd j => T8_in hG hd j) _ (Nat.le_refl _)
    have jb : 0 ≤ J.2 ∧ J.2 ≤ n := by rw [eJ]; exact joi_nn n
    have jl : ∀ c : Int, -1 ≤ J.1 c ∧ J.1 c ≤ 96 := fun c => by
      have := joi_lab (P := fun c => crest C R (M2 10) c (wnr M2 (M2 10 197))) (T := T9 C R) (K := 9) n c
      rw [← eJ] at this; omega
    obtain ⟨m, hm⟩ := znn jb.1
    have F1 : ∀ l : Int, 0 ≤ cnt (fun c => J.1 c = l) n ∧ cnt (fun c => J.1 c = l) n ≤ 96 := fun l => by have := cnt_in (fun c => J.1 c = l) n; omega
    have F2 := fun i : Nat => lgs_in (F := fun l => cnt (fun c => J.1 c = l) n) i (fun i _ => F1 i)
    have ls : ∀ i : Nat, lgs (fun l => cnt (fun c => J.1 c = l) n) (i + 1) = if (lgs (fun l => cnt (fun c => J.1 c = l) n) i).1 < cnt (fun c => J.1 c = (i : Int)) n then (cnt (fun c => J.1 c = (i : Int)) n, (i : Int)) else lgs (fun l => cnt (fun c => J.1 c = l) n) i := fun i => rfl
    obtain ⟨AA, hAA⟩ : ∃ AA, AA = (if x1 = 0 then J.2 else if x1 = 1 then (lgs (fun l => cnt (fun c => J.1 c = l) n) m).1 else if (lgs (fun l => cnt (fun c => J.1 c = l) n) m).2 = -1 then -1 else fcl J.1 (lgs (fun l => cnt (fun c => J.1 c = l) n) m).2 n) := ⟨_, rfl⟩
    refine zE_of (A := AA) hJ hk ?_ ?_
    · refine zki_of rfl (Nat.le_of_ble_eq_true rfl) (SX9_crests_0 (C := C) (R := R) ⟨h1, fun h => by omega, fun _ => ⟨fun _ => ⟨hL, hJ.sok, _, c_joinCrests hL (fun i a b => by have : 0 ≤ M1 25 i ∧ M1 25 i ≤ 1000000 := hJ.sok.1 i a b; omega) hw, fun M9 hq => ?_⟩, fun h => by omega⟩⟩)
      rw [e8] at hq
      obtain ⟨⟨q1, q2⟩, q3⟩ := hq
      have f9 : fr1 M1 M9 := frl.fr1 (l := [127, 128, 129, 130]) (fun b hb => by
        have hb' : b ≠ 127 ∧ b ≠ 128 ∧ b ≠ 129 ∧ b ≠ 130 := by simp at hb; omega
        exact q3 b hb'.1 hb'.2.1 hb'.2.2.1 hb'.2.2.2) rfl
      have hL9 := f9.Ld hL
      have hl9 : ∀ c : Int, 0 ≤ c → c < C * R → M9 (127 + 3) c = J.1 c ∧ -1 ≤ J.1 c ∧ J.1 c ≤ 96 := fun c a b => ⟨q1 c a b, jl c⟩
      refine ⟨fun h0 => ?_, fun h0 => ⟨by rw [hAA, if_pos h0]; exact q2, f9⟩⟩
      suffices hs : ∀ (j i : Nat), i + j = m → zT g (z1 o) mX9_crests (zQi (z1 o) (fun r N => r = AA ∧ fr1 M1 N)) 45 [(0, zA g 1), (1, zI x1), (2, zI (lgs (fun l => cnt (fun c => J.1 c = l) n) i).2), (3, zI (lgs (fun l => cnt (fun c => J.1 c = l) n) i).1), (4, zI i)] [] M9 from hs m 0 (by omega)
      intro j
      induction j with
      | zero =>
        intro i hi
        rw [show i = m by omega]
        have := F2 m
        refine SX9_crests_45 ⟨by omega, by omega, fun _ => ⟨h1, fun h => ⟨_, c_firstCell (b := 127) (L := J.1) (Or.inl rfl) hL9 hl9 (by omega), fun r M6 hr => ⟨?_, by rw [hr.2]; exact f9⟩⟩, fun h => ⟨by rw [hAA, if_neg h0, if_pos h], f9⟩⟩, fun h => by omega⟩
        rw [hr.1, hAA, if_neg h0, if_neg h, en]
      | succ j ih =>
        intro i hi
        have b := F2 i
        have nx := ih (i + 1) (by omega)
        refine SX9_crests_45 ⟨by omega, by omega, fun h => by omega, fun _ => ⟨_, c_size (b := 127) (L := J.1) (Or.inl rfl) hL9 hl9 (by omega), fun r M6 hr => ?_⟩⟩
        rw [en] at hr
        obtain ⟨hr1, hr2⟩ := hr
        subst hr2
        have fi := F1 i
        refine ⟨by omega, by omega, fun h => ?_, fun h => ?_⟩
        · rw [ls i, if_neg (by rw [← hr1]; omega)] at nx; exact nx
        · rw [ls i, if_pos (by rw [← hr1]; omega)] at nx
          rw [hr1]; exact nx
    · refine zki_of rfl (Nat.le_of_ble_eq_true rfl) (SX10_crests_0 ⟨h1, fun _ => ⟨_, c_laysCrests hR hJ.ok, fun r M7 hq => ⟨h1, fun h0 => ?_, fun h0 => ⟨?_, hq.2.2⟩⟩⟩, fun h => absurd hx h⟩)
      · rw [en, ← eJ] at hq
        obtain ⟨q1, q2, q3⟩ := hq
        rw [q1]
        have hR7 := q3.Ld hR
        suffices hs : ∀ (j i : Nat), i + j = m → zT g' (z2 o') mX10_crests (zQi (z2 o') (fun r N => r = AA ∧ fr2 M2 N)) 30 [(0, zA g' 1), (1, zI x1), (2, zI J.2), (3, zI (lgs (fun l => cnt (fun c => J.1 c = l) n) i).1), (4, zI (if (lgs (fun l => cnt (fun c => J.1 c = l) n) i).2 = -1 then -1 else fcl J.1 (lgs (fun l => cnt (fun c => J.1 c = l) n) i).2 n)), (5, zI i)] [] M7 from hs m 0 (by omega)
        intro j
        induction j with
        | zero =>
          intro i hi
          rw [show i = m by omega]
          exact SX10_crests_30 (C := C) (R := R) ⟨by omega, by omega, fun _ => ⟨h1, fun h => ⟨by rw [hAA, if_neg h0, if_neg h], q3⟩, fun h => ⟨by rw [hAA, if_neg h0, if_pos h], q3⟩⟩, fun h => by omega⟩
        | succ j ih =>
          intro i hi
          have b := F2 i
          have nx := ih (i + 1) (by omega)
          refine SX10_crests_30 (C := C) (R := R) ⟨by omega, by omega, fun h => by omega, fun _ => ⟨hR7, ?_⟩⟩
          obtain ⟨W0, hW0⟩ : ∃ v, v = (if (lgs (fun l => cnt (fun c => J.1 c = l) n) i).2 = -1 then -1 else fcl J.1 (lgs (fun l => cnt (fun c => J.1 c = l) n) i).2 n) := ⟨_, rfl⟩
          rw [← hW0]
          suffices hs2 : ∀ (t : Nat) (y : Int), t ≤ n → fcl J.1 i n = (if fcl J.1 i t = -1 then y else fcl J.1 i t) → zT g' (z2 o') mX10_crests (zQi (z2 o') (fun r N => r = AA ∧ fr2 M2 N)) 50 [(0, zA g' 1), (1, zI x1), (2, zI J.2), (3, zI (lgs (fun l => cnt (fun c => J.1 c = l) n) i).1), (4, zI W0), (5, zI i), (6, zI (cnt (fun c => J.1 c = (i : Int)) n - cnt (fun c => J.1 c = (i : Int)) t)), (7, zI y), (8, zI ((t : Int) - 1))] [] M7 by
            have := hs2 n (-1) (Nat.le_refl n) (by split <;> (first | assumption | rfl))
            rw [Int.sub_self, ← hnn] at this
            exact this
          intro t
          induction t with
          | zero =>
            intro y ht hy
            have hy' : fcl J.1 i n = y := by rw [hy]; rfl
            have e0 : cnt (fun c => J.1 c = (i : Int)) 0 = 0 := rfl
            have fi := F1 i
            rw [e0]
            refine SX10_crests_50 ⟨by omega, fun _ => ⟨by omega, by omega, fun h => ?_, fun h => ?_⟩, fun h => by omega⟩
            · rw [ls i, if_pos (by omega)] at nx
              rw [← hy', Int.sub_zero]
              have e9 : ((cnt (fun c => J.1 c = (i : Int)) n, (i : Int)) : Int × Int).2 = i := rfl
              rw [e9, if_neg (by omega)] at nx
              exact nx
            · rw [ls i, if_neg (by omega), ← hW0] at nx
              exact nx
          | succ t iht =>
            intro y ht hy
            have fi := F1 i
            have ct := cnt_in (fun c => J.1 c = (i : Int)) t
            have lt := jl t
            have el := q2 t (by omega) (by omega)
            have ef : fcl J.1 i (t + 1) = if fcl J.1 i t = -1 then (if J.1 t = i then (t : Int) else -1) else fcl J.1 i t := rfl
            have ec : cnt (fun c => J.1 c = (i : Int)) (t + 1) = cnt (fun c => J.1 c = (i : Int)) t + zb (J.1 t = i) := rfl
            have e1 : ((t + 1 : Nat) : Int) - 1 = t := by omega
            rw [e1]
            refine SX10_crests_50 ⟨by omega, fun h => by omega, fun _ => ⟨by omega, by omega, by omega, fun h => ?_, fun h => ?_⟩⟩
            · rw [el] at h
              have := iht t (by omega) (by
                rw [hy, ef, if_pos h]
                split
                · rw [if_neg (by omega)]
                · rfl)
              rw [ec, zb_t h, show cnt (fun c => J.1 c = (i : Int)) n - (cnt (fun c => J.1 c = (i : Int)) t + 1) + 1 = cnt (fun c => J.1 c = (i : Int)) n - cnt (fun c => J.1 c = (i : Int)) t by omega, show (t : Int) + (-1) = t - 1 by omega]
              exact this
            · rw [el] at h
              have := iht y (by omega) (by
                rw [hy, ef, if_neg h]
                split
                · rw [if_pos rfl]
                · rfl)
              rw [ec, zb_f h, Int.add_zero, show (t : Int) + (-1) = t - 1 by omega]
              exact this
      · rw [hAA, if_pos h0, hq.1, en, ← eJ]
  · exact zE_of (A := -1) hJ hk (zki_of rfl (Nat.le_of_ble_eq_true rfl) (SX9_crests_0 (C := C) (R := R) ⟨h1, fun _ => ⟨rfl, fr1.rf⟩, fun _ => ⟨fun h => by omega, fun _ => ⟨rfl, fr1.rf⟩⟩⟩)) (zki_of rfl (Nat.le_of_ble_eq_true rfl) (SX10_crests_0 ⟨h1, fun h => absurd h hx, fun _ => ⟨rfl, fr2.rf⟩⟩))
end CR
