/-! the Reader: its place among tokens, its fault -/
abbrev Rs : Type := Int × Int × Int
def gst (M : zM) : Rs := (M 7 4, M 7 2, M 7 3)
def pst (M : zM) (s : Rs) : zM := zu (zu (zu M 7 4 s.1) 7 2 s.2.1) 7 3 s.2.2
def adS (K : Int → Int) (s : Rs) : Rs := if K s.1 = 0 then s else (s.1 + 1, s.2.1, s.2.2)
def rfS (Pl : Int → Int) (wh t : Int) (s : Rs) : Rs := if s.2.1 = 0 then (s.1, wh, Pl t) else s
def rtS (K Pl : Int → Int) (s : Rs) : Rs := rfS Pl (if K s.1 = 4 then 1 else 2) s.1 s
def xpS (K Pl : Int → Int) (c : Int) (s : Rs) : Rs := if s.2.1 = 0 then (if c = 0 then rtS K Pl s else adS K s) else s
def nmV (K V : Int → Int) (lo hi : Int) (s : Rs) : Int := if s.2.1 = 0 ∧ K s.1 = 2 ∧ lo ≤ V s.1 ∧ V s.1 ≤ hi then V s.1 else lo
def nmS (K Pl V : Int → Int) (lo hi : Int) (s : Rs) : Rs := if s.2.1 = 0 then (if K s.1 = 2 then (if lo ≤ V s.1 ∧ V s.1 ≤ hi then adS K s else rfS Pl 4 s.1 s) else rtS K Pl s) else s
def bt (x k : Int) : Prop := x / (2 ^ k.toNat : Nat) % 2 = 1
def sbt (x k : Int) : Int := ((x.toNat ||| 2 ^ k.toNat : Nat) : Int)
/-- what the tokens are as far as the Reader goes -/
def rdK (K V : Int → Int) (s : Rs) : Prop := (∃ T : Nat, T ≤ 900 ∧ (∀ t : Nat, t ≤ T → (0 ≤ K t ∧ K t ≤ 4) ∧ (K t = 0 ↔ t = T) ∧ (K t = 1 → -1 ≤ V t ∧ V t ≤ 14) ∧ (K t = 2 → 0 ≤ V t ∧ V t ≤ 9999)) ∧ ∃ t : Nat, s.1 = t ∧ t ≤ T) ∧ 0 ≤ s.2.1 ∧ s.2.1 ≤ 4
def rdO (M : zM) : Prop := rdK (M 4) (M 6) (gst M)
def nmF (lo hi : Int) (M : zM) : zM := pst M (nmS (M 4) (M 5) (M 6) lo hi (gst M))
def numF (lo hi : Int) (a : Nat) (f : Int) (M : zM) : zM := zu (nmF lo hi M) a f (nmV (M 4) (M 6) lo hi (gst M))
section RD0
variable {g : zG} {o : Bool} {M N : zM} {K Pl V : Int → Int} {s s' : Rs} {lo hi x c wh t : Int} {a : Nat}
theorem gst_pst : gst (pst M s) = s := by
  obtain ⟨a, b, c⟩ := s
  simp [gst, pst, zu]
theorem pst_o {b : Nat} (h : b ≠ 7) : pst M s b = M b := by unfold pst; rw [zu_other h, zu_other h, zu_other h]
theorem pst_pst : pst (pst M s) s' = pst M s' := by
  funext b i
  unfold pst zu
  by_cases h : b = 7
  · subst h
    by_cases h3 : i = 3
    · subst h3; simp
    · by_cases h2 : i = 2
      · subst h2; simp
      · by_cases h4 : i = 4
        · subst h4; simp
        · simp [h2, h3, h4]
  · simp [h]
theorem pst_gst : pst M (gst M) = M := by
  funext b i
  unfold pst zu gst
  by_cases h : b = 7
  · subst h
    by_cases h3 : i = 3
    · subst h3; simp
    · by_cases h2 : i = 2
      · subst h2; simp
      · by_cases h4 : i = 4
        · subst h4; simp
        · simp [h2, h3, h4]
  · simp [h]
theorem pst_t (x : Int) : pst M (x, M 7 2, M 7 3) = zu M 7 4 x := by
  funext b i
  unfold pst zu
  by_cases h : b = 7
  · subst h
    by_cases h3 : i = 3
    · subst h3; simp
    · by_cases h2 : i = 2
      · subst h2; simp
      · by_cases h4 : i = 4
        · subst h4; simp
        · simp [h2, h3, h4]
  · simp [h]
theorem pst_w (x y : Int) : pst M (M 7 4, x, y) = zu (zu M 7 2 x) 7 3 y := by
  funext b i
  unfold pst zu
  by_cases h : b = 7
  · subst h
    by_cases h3 : i = 3
    · subst h3; simp
    · by_cases h2 : i = 2
      · subst h2; simp
      · by_cases h4 : i = 4
        · subst h4; simp
        · simp [h2, h3, h4]
  · simp [h]
theorem pst_7 : pst M s 7 4 = s.1 ∧ pst M s 7 2 = s.2.1 ∧ pst M s 7 3 = s.2.2 := by simp [pst, zu]
/-- a row that is not the Reader's -/
theorem gst_zu {b : Nat} {i v : Int} (h : b ≠ 7) : gst (zu M b i v) = gst M := by unfold gst; rw [zu_other (Ne.symm h)]
theorem pst_zu {b : Nat} {i v : Int} (h : b ≠ 7) : pst (zu M b i v) s = zu (pst M s) b i v := by
  funext b' i'
  unfold pst zu
  by_cases hb : b' = 7
  · subst hb; simp [Ne.symm h]
  · simp [hb]
theorem rdK.rng (h : rdK K V s) : (0 ≤ s.1 ∧ s.1 ≤ 900) ∧ (0 ≤ K s.1 ∧ K s.1 ≤ 4) ∧ (K s.1 ≠ 0 → s.1 < 900) ∧ (K s.1 = 1 → -1 ≤ V s.1 ∧ V s.1 ≤ 14) ∧ (K s.1 = 2 → 0 ≤ V s.1 ∧ V s.1 ≤ 9999) ∧ 0 ≤ s.2.1 ∧ s.2.1 ≤ 4 := by
  obtain ⟨⟨T, h1, h2, t, h3, h4⟩, h5⟩ := h
  obtain ⟨a, b, c, d⟩ := h2 t h4
  rw [h3]
  refine ⟨by omega, a, fun z => ?_, c, d, h5⟩
  have : t ≠ T := fun e => z (b.mpr e)
  omega
theorem rdK.ad (h : rdK K V s) : rdK K V (adS K s) := by
  unfold adS
  split
  · exact h
  · rename_i hz
    obtain ⟨⟨T, h1, h2, t, h3, h4⟩, h5⟩ := h
    have ht := (h2 t h4).2.1
    refine ⟨⟨T, h1, h2, t + 1, by show s.1 + 1 = _; omega, ?_⟩, h5⟩
    have : t ≠ T := fun e => hz (by rw [h3]; exact ht.mpr e)
    omega
theorem rdK.rf (h : rdK K V s) (hw : 0 ≤ wh ∧ wh ≤ 4) : rdK K V (rfS Pl wh t s) := by
  unfold rfS
  split
  · exact ⟨h.1, hw⟩
  · exact h
theorem rdK.rt (h : rdK K V s) : rdK K V (rtS K Pl s) := h.rf (by split <;> decide)
theorem rdK.xp (h : rdK K V s) : rdK K V (xpS K Pl c s) := by
  unfold xpS
  split
  · split
    · exact h.rt
    · exact h.ad
  · exact h
theorem rdK.nm (h : rdK K V s) : rdK K V (nmS K Pl V lo hi s) := by
  unfold nmS
  split
  · split
    · split
      · exact h.ad
      · exact h.rf (by decide)
    · exact h.rt
  · exact h
theorem rdO_pst : rdO (pst M s) ↔ rdK (M 4) (M 6) s := by unfold rdO; rw [gst_pst, pst_o (by decide), pst_o (by decide)]
theorem rdO.zu {b : Nat} {i v : Int} (h : rdO M) (h4 : b ≠ 4) (h6 : b ≠ 6) (h7 : b ≠ 7) : rdO (zu M b i v) := by
  unfold rdO; rw [gst_zu h7, zu_other (Ne.symm h4), zu_other (Ne.symm h6)]; exact h
theorem nmV_in (h : rdK K V s) (hl : lo ≤ hi) : lo ≤ nmV K V lo hi s ∧ nmV K V lo hi s ≤ hi := by
  unfold nmV; split <;> omega
end RD0
theorem dX4_kind_0 : decode cX4_kind 0 = .ok (.aload_n 0, 1) := by decide +kernel
theorem dX4_kind_1 : decode cX4_kind 1 = .ok (.getfield 28, 3) := by decide +kernel
theorem dX4_kind_4 : decode cX4_kind 4 = .ok (.getfield 59, 3) := by decide +kernel
theorem dX4_kind_7 : decode cX4_kind 7 = .ok (.aload_n 0, 1) := by decide +kernel
theorem dX4_kind_8 : decode cX4_kind 8 = .ok (.getfield 25, 3) := by decide +kernel
theorem dX4_kind_11 : decode cX4_kind 11 = .ok (.iaload, 1) := by decide +kernel
theorem dX4_kind_12 : decode cX4_kind 12 = .ok (.ireturn, 1) := by decide +kernel
set_option maxRecDepth 100000 in
theorem SX4_kind_0 {g : zG} {o : Bool} {M : zM} {q : Int → zM → Prop} (W : (0 ≤ (M 7 4) ∧ (M 7 4) < 901) ∧ q (M 4 (M 7 4)) M) : zT g (z1 o) mX4_kind (zQi (z1 o) q) 0 [(0, zA g 7)] [] M := by
  refine zr_aload_n 0 dX4_kind_0 rfl ?_
  refine zr_getr (b := 2) dX4_kind_1 fX4_28 rfl rfl rfl (by decide) ?_
  refine zr_getr (b := 4) dX4_kind_4 fX4_59 rfl rfl rfl (by decide) ?_
  refine zr_aload_n 0 dX4_kind_7 rfl ?_
  refine zt_geti 4 rfl dX4_kind_8 fX4_25 rfl (by decide) ?_
  obtain ⟨c1, W⟩ := W
  refine zr_iald dX4_kind_11 rfl (by decide) c1 ?_
  exact zt_iret dX4_kind_12 rfl W
theorem dX4_value_0 : decode cX4_value 0 = .ok (.aload_n 0, 1) := by decide +kernel
theorem dX4_value_1 : decode cX4_value 1 = .ok (.getfield 28, 3) := by decide +kernel
theorem dX4_value_4 : decode cX4_value 4 = .ok (.getfield 63, 3) := by decide +kernel
theorem dX4_value_7 : decode cX4_value 7 = .ok (.aload_n 0, 1) := by decide +kernel
theorem dX4_value_8 : decode cX4_value 8 = .ok (.getfield 25, 3) := by decide +kernel
theorem dX4_value_11 : decode cX4_value 11 = .ok (.iaload, 1) := by decide +kernel
theorem dX4_value_12 : decode cX4_value 12 = .ok (.ireturn, 1) := by decide +kernel
set_option maxRecDepth 100000 in
theorem SX4_value_0 {g : zG} {o : Bool} {M : zM} {q : Int → zM → Prop} (W : (0 ≤ (M 7 4) ∧ (M 7 4) < 901) ∧ q (M 6 (M 7 4)) M) : zT g (z1 o) mX4_value (zQi (z1 o) q) 0 [(0, zA g 7)] [] M := by
  refine zr_aload_n 0 dX4_value_0 rfl ?_
  refine zr_getr (b := 2) dX4_value_1 fX4_28 rfl rfl rfl (by decide) ?_
  refine zr_getr (b := 6) dX4_value_4 fX4_63 rfl rfl rfl (by decide) ?_
  refine zr_aload_n 0 dX4_value_7 rfl ?_
  refine zt_geti 4 rfl dX4_value_8 fX4_25 rfl (by decide) ?_
  obtain ⟨c1, W⟩ := W
  refine zr_iald dX4_value_11 rfl (by decide) c1 ?_
  exact zt_iret dX4_value_12 rfl W
section RD1
variable {g : zG} {o : Bool} {M N : zM} {K Pl V : Int → Int} {s s' : Rs} {lo hi x c wh t : Int} {a : Nat}
theorem c_kind (h : 0 ≤ M 7 4 ∧ M 7 4 < 901) : zKi g (z1 o) mX4_kind [zA g 7] M (fun r N => r = M 4 (M 7 4) ∧ N = M) := zki_of rfl (Nat.le_of_ble_eq_true rfl) (SX4_kind_0 ⟨h, rfl, rfl⟩)
theorem c_value (h : 0 ≤ M 7 4 ∧ M 7 4 < 901) : zKi g (z1 o) mX4_value [zA g 7] M (fun r N => r = M 6 (M 7 4) ∧ N = M) := zki_of rfl (Nat.le_of_ble_eq_true rfl) (SX4_value_0 ⟨h, rfl, rfl⟩)
end RD1
theorem dX4_advance_0 : decode cX4_advance 0 = .ok (.aload_n 0, 1) := by decide +kernel
theorem dX4_advance_1 : decode cX4_advance 1 = .ok (.invokevirtual 40, 3) := by decide +kernel
theorem dX4_advance_4 : decode cX4_advance 4 = .ok (.ifCond .eq 23, 3) := by decide +kernel
theorem dX4_advance_7 : decode cX4_advance 7 = .ok (.aload_n 0, 1) := by decide +kernel
theorem dX4_advance_8 : decode cX4_advance 8 = .ok (.getfield 25, 3) := by decide +kernel
theorem dX4_advance_11 : decode cX4_advance 11 = .ok (.sipush 900, 3) := by decide +kernel
theorem dX4_advance_14 : decode cX4_advance 14 = .ok (.if_icmp .ge 13, 3) := by decide +kernel
theorem dX4_advance_17 : decode cX4_advance 17 = .ok (.aload_n 0, 1) := by decide +kernel
theorem dX4_advance_18 : decode cX4_advance 18 = .ok (.dup, 1) := by decide +kernel
theorem dX4_advance_19 : decode cX4_advance 19 = .ok (.getfield 25, 3) := by decide +kernel
theorem dX4_advance_22 : decode cX4_advance 22 = .ok (.iconst 1, 1) := by decide +kernel
theorem dX4_advance_23 : decode cX4_advance 23 = .ok (.iadd, 1) := by decide +kernel
theorem dX4_advance_24 : decode cX4_advance 24 = .ok (.putfield 25, 3) := by decide +kernel
theorem dX4_advance_27 : decode cX4_advance 27 = .ok (.return_, 1) := by decide +kernel
set_option maxRecDepth 100000 in
theorem SX4_advance_0 {g : zG} {o : Bool} {M : zM} {q : zM → Prop} (W : (0 ≤ M 7 4 ∧ M 7 4 < 901) ∧ (-2147483648 ≤ (M 4 (M 7 4)) ∧ (M 4 (M 7 4)) ≤ 2147483647) ∧ (((M 4 (M 7 4)) = 0) → q M) ∧ ((¬ ((M 4 (M 7 4)) = 0)) → (-2147483648 ≤ (M 7 4) ∧ (M 7 4) ≤ 2147483647) ∧ ((900 ≤ (M 7 4)) → q M) ∧ ((¬ (900 ≤ (M 7 4))) → q (zu M 7 4 ((M 7 4) + 1))))) : zT g (z1 o) mX4_advance (zQv (z1 o) q) 0 [(0, zA g 7)] [] M := by
  refine zr_aload_n 0 dX4_advance_0 rfl ?_
  obtain ⟨c1, W⟩ := W
  refine zt_callVi (As := []) (rest := []) dX4_advance_1 kX4_advance_40 rfl rfl rfl rfl (Nat.le_of_ble_eq_true rfl) (c_kind c1) (fun r2 N4 h3 => ?_)
  rw [h3.1, h3.2]
  obtain ⟨c5, W⟩ := W
  refine zr_if_eq (tgt := 27) dX4_advance_4 (by decide) c5 (fun h => ?_) (fun h => ?_)
  · have W := W.1 h
    exact zt_ret dX4_advance_27 rfl W
  · have W := W.2 h
    refine zr_aload_n 0 dX4_advance_7 rfl ?_
    refine zt_geti 4 rfl dX4_advance_8 fX4_25 rfl (by decide) ?_
    refine zr_sipush dX4_advance_11 (by decide) ?_
    obtain ⟨c6, W⟩ := W
    refine zr_icmp_ge (tgt := 27) dX4_advance_14 (by decide) c6 ⟨by decide, by decide⟩ (fun h => ?_) (fun h => ?_)
    · have W := W.1 h
      exact zt_ret dX4_advance_27 rfl W
    · have W := W.2 h
      refine zr_aload_n 0 dX4_advance_17 rfl ?_
      refine zr_dup dX4_advance_18 rfl ?_
      refine zt_geti 4 rfl dX4_advance_19 fX4_25 rfl (by decide) ?_
      refine zr_iconst dX4_advance_22 ?_
      refine zr_iadd dX4_advance_23 ?_
      refine zt_puti 4 rfl dX4_advance_24 fX4_25 lcX4 ltX4_4 rfl rfl ?_
      exact zt_ret dX4_advance_27 rfl W
theorem dX4_refuse_0 : decode cX4_refuse 0 = .ok (.aload_n 0, 1) := by decide +kernel
theorem dX4_refuse_1 : decode cX4_refuse 1 = .ok (.getfield 18, 3) := by decide +kernel
theorem dX4_refuse_4 : decode cX4_refuse 4 = .ok (.ifCond .ne 21, 3) := by decide +kernel
theorem dX4_refuse_7 : decode cX4_refuse 7 = .ok (.aload_n 0, 1) := by decide +kernel
theorem dX4_refuse_8 : decode cX4_refuse 8 = .ok (.iload_n 1, 1) := by decide +kernel
theorem dX4_refuse_9 : decode cX4_refuse 9 = .ok (.putfield 18, 3) := by decide +kernel
theorem dX4_refuse_12 : decode cX4_refuse 12 = .ok (.aload_n 0, 1) := by decide +kernel
theorem dX4_refuse_13 : decode cX4_refuse 13 = .ok (.aload_n 0, 1) := by decide +kernel
theorem dX4_refuse_14 : decode cX4_refuse 14 = .ok (.getfield 28, 3) := by decide +kernel
theorem dX4_refuse_17 : decode cX4_refuse 17 = .ok (.getfield 66, 3) := by decide +kernel
theorem dX4_refuse_20 : decode cX4_refuse 20 = .ok (.iload_n 2, 1) := by decide +kernel
theorem dX4_refuse_21 : decode cX4_refuse 21 = .ok (.iaload, 1) := by decide +kernel
theorem dX4_refuse_22 : decode cX4_refuse 22 = .ok (.putfield 22, 3) := by decide +kernel
theorem dX4_refuse_25 : decode cX4_refuse 25 = .ok (.return_, 1) := by decide +kernel
set_option maxRecDepth 100000 in
theorem SX4_refuse_0 {g : zG} {o : Bool} {M : zM} {q : zM → Prop} {x1 x2 : Int} (W : (-2147483648 ≤ (M 7 2) ∧ (M 7 2) ≤ 2147483647) ∧ (((M 7 2) ≠ 0) → q M) ∧ (((M 7 2) = 0) → (0 ≤ x2 ∧ x2 < 901) ∧ ∀ N3 : zM, N3 = zu M 7 2 x1 → q (zu N3 7 3 (N3 5 x2)))) : zT g (z1 o) mX4_refuse (zQv (z1 o) q) 0 [(0, zA g 7), (1, zI x1), (2, zI x2)] [] M := by
  refine zr_aload_n 0 dX4_refuse_0 rfl ?_
  refine zt_geti 2 rfl dX4_refuse_1 fX4_18 rfl (by decide) ?_
  obtain ⟨c1, W⟩ := W
  refine zr_if_ne (tgt := 25) dX4_refuse_4 (by decide) c1 (fun h => ?_) (fun h => ?_)
  · have W := W.1 h
    exact zt_ret dX4_refuse_25 rfl W
  · have W := W.2 h
    refine zr_aload_n 0 dX4_refuse_7 rfl ?_
    refine zr_iload_n 1 dX4_refuse_8 rfl ?_
    refine zt_puti 2 rfl dX4_refuse_9 fX4_18 lcX4 ltX4_2 rfl rfl ?_
    refine zr_aload_n 0 dX4_refuse_12 rfl ?_
    refine zr_aload_n 0 dX4_refuse_13 rfl ?_
    refine zr_getr (b := 2) dX4_refuse_14 fX4_28 rfl rfl rfl (by decide) ?_
    refine zr_getr (b := 5) dX4_refuse_17 fX4_66 rfl rfl rfl (by decide) ?_
    refine zr_iload_n 2 dX4_refuse_20 rfl ?_
    obtain ⟨c2, W⟩ := W
    refine zr_iald dX4_refuse_21 rfl (by decide) c2 ?_
    obtain ⟨N3, e4⟩ : ∃ N : zM, N = zu M 7 2 x1 := ⟨_, rfl⟩
    rw [← e4]
    have W := W N3 e4
    refine zt_puti 3 rfl dX4_refuse_22 fX4_22 lcX4 ltX4_3 rfl rfl ?_
    exact zt_ret dX4_refuse_25 rfl W
section RD1
variable {g : zG} {o : Bool} {M N : zM} {K Pl V : Int → Int} {s s' : Rs} {lo hi x c wh t : Int} {a : Nat}
theorem c_advance (h : rdO M) : zKv g (z1 o) mX4_advance [zA g 7] M (fun N => N = pst M (adS (M 4) (gst M))) := by
  obtain ⟨r1, r2, r3, r4, r5, r6⟩ := h.rng
  have e : (gst M).1 = M 7 4 := rfl
  rw [e] at r1 r2 r3
  refine zkv_of rfl (Nat.le_of_ble_eq_true rfl) (SX4_advance_0 ⟨by omega, by omega, fun z => ?_, fun z => ⟨by omega, fun w => absurd (r3 z) (by omega), fun w => ?_⟩⟩)
  · unfold adS; rw [e, if_pos z, pst_gst]
  · unfold adS; rw [e, if_neg z]; exact (pst_t _).symm
theorem c_refuse (h : rdO M) (ht : 0 ≤ t ∧ t < 901) : zKv g (z1 o) mX4_refuse [zA g 7, zI wh, zI t] M (fun N => N = pst M (rfS (M 5) wh t (gst M))) := by
  obtain ⟨r1, r2, r3, r4, r5, r6⟩ := h.rng
  have e : (gst M).2.1 = M 7 2 := rfl
  rw [e] at r6
  refine zkv_of rfl (Nat.le_of_ble_eq_true rfl) (SX4_refuse_0 ⟨by omega, fun z => ?_, fun z => ⟨ht, fun N3 e3 => ?_⟩⟩)
  · unfold rfS; rw [if_neg (by rw [e]; exact z), pst_gst]
  · unfold rfS; rw [if_pos (by rw [e]; exact z), e3, zu_other (by decide)]; exact (pst_w _ _).symm
end RD1
theorem dX4_refuseToken_0 : decode cX4_refuseToken 0 = .ok (.aload_n 0, 1) := by decide +kernel
theorem dX4_refuseToken_1 : decode cX4_refuseToken 1 = .ok (.aload_n 0, 1) := by decide +kernel
theorem dX4_refuseToken_2 : decode cX4_refuseToken 2 = .ok (.invokevirtual 40, 3) := by decide +kernel
theorem dX4_refuseToken_5 : decode cX4_refuseToken 5 = .ok (.iconst 4, 1) := by decide +kernel
theorem dX4_refuseToken_6 : decode cX4_refuseToken 6 = .ok (.if_icmp .ne 7, 3) := by decide +kernel
theorem dX4_refuseToken_9 : decode cX4_refuseToken 9 = .ok (.iconst 1, 1) := by decide +kernel
theorem dX4_refuseToken_10 : decode cX4_refuseToken 10 = .ok (.goto 4, 3) := by decide +kernel
theorem dX4_refuseToken_13 : decode cX4_refuseToken 13 = .ok (.iconst 2, 1) := by decide +kernel
theorem dX4_refuseToken_14 : decode cX4_refuseToken 14 = .ok (.aload_n 0, 1) := by decide +kernel
theorem dX4_refuseToken_15 : decode cX4_refuseToken 15 = .ok (.getfield 25, 3) := by decide +kernel
theorem dX4_refuseToken_18 : decode cX4_refuseToken 18 = .ok (.invokevirtual 69, 3) := by decide +kernel
theorem dX4_refuseToken_21 : decode cX4_refuseToken 21 = .ok (.return_, 1) := by decide +kernel
set_option maxRecDepth 100000 in
theorem SX4_refuseToken_0 {g : zG} {o : Bool} {M : zM} {q : zM → Prop} (W : (0 ≤ M 7 4 ∧ M 7 4 < 901) ∧ (-2147483648 ≤ (M 4 (M 7 4)) ∧ (M 4 (M 7 4)) ≤ 2147483647) ∧ (((M 4 (M 7 4)) ≠ 4) → (rdO M) ∧ (0 ≤ (M 7 4) ∧ (M 7 4) < 901) ∧ ∀ N10 : zM, N10 = pst M (rfS (M 5) 2 (M 7 4) (gst M)) → q N10) ∧ (((M 4 (M 7 4)) = 4) → (rdO M) ∧ (0 ≤ (M 7 4) ∧ (M 7 4) < 901) ∧ ∀ N15 : zM, N15 = pst M (rfS (M 5) 1 (M 7 4) (gst M)) → q N15)) : zT g (z1 o) mX4_refuseToken (zQv (z1 o) q) 0 [(0, zA g 7)] [] M := by
  refine zr_aload_n 0 dX4_refuseToken_0 rfl ?_
  refine zr_aload_n 0 dX4_refuseToken_1 rfl ?_
  obtain ⟨c1, W⟩ := W
  refine zt_callVi (As := []) (rest := [zA g 7]) dX4_refuseToken_2 kX4_refuseToken_40 rfl rfl rfl rfl (Nat.le_of_ble_eq_true rfl) (c_kind c1) (fun r2 N4 h3 => ?_)
  rw [h3.1, h3.2]
  refine zr_iconst dX4_refuseToken_5 ?_
  obtain ⟨c5, W⟩ := W
  refine zr_icmp_ne (tgt := 13) dX4_refuseToken_6 (by decide) c5 ⟨by decide, by decide⟩ (fun h => ?_) (fun h => ?_)
  · have W := W.1 h
    refine zr_iconst dX4_refuseToken_13 ?_
    refine zr_aload_n 0 dX4_refuseToken_14 rfl ?_
    refine zt_geti 4 rfl dX4_refuseToken_15 fX4_25 rfl (by decide) ?_
    obtain ⟨c6, W⟩ := W
    obtain ⟨c7, W⟩ := W
    refine zt_callVv (As := [zI 2, zI (M 7 4)]) (rest := []) dX4_refuseToken_18 kX4_refuseToken_69 rfl rfl rfl rfl (Nat.le_of_ble_eq_true rfl) (c_refuse c6 c7) (fun N10 h9 => ?_)
    have W := W N10 h9
    exact zt_ret dX4_refuseToken_21 rfl W
  · have W := W.2 h
    refine zr_iconst dX4_refuseToken_9 ?_
    refine zr_goto (tgt := 14) dX4_refuseToken_10 (by decide) ?_
    refine zr_aload_n 0 dX4_refuseToken_14 rfl ?_
    refine zt_geti 4 rfl dX4_refuseToken_15 fX4_25 rfl (by decide) ?_
    obtain ⟨c11, W⟩ := W
    obtain ⟨c12, W⟩ := W
    refine zt_callVv (As := [zI 1, zI (M 7 4)]) (rest := []) dX4_refuseToken_18 kX4_refuseToken_69 rfl rfl rfl rfl (Nat.le_of_ble_eq_true rfl) (c_refuse c11 c12) (fun N15 h14 => ?_)
    have W := W N15 h14
    exact zt_ret dX4_refuseToken_21 rfl W
section RD1
variable {g : zG} {o : Bool} {M N : zM} {K Pl V : Int → Int} {s s' : Rs} {lo hi x c wh t : Int} {a : Nat}
theorem c_refuseToken (h : rdO M) : zKv g (z1 o) mX4_refuseToken [zA g 7] M (fun N => N = pst M (rtS (M 4) (M 5) (gst M))) := by
  obtain ⟨r1, r2, r3, r4, r5, r6⟩ := h.rng
  have e : (gst M).1 = M 7 4 := rfl
  rw [e] at r1 r2
  refine zkv_of rfl (Nat.le_of_ble_eq_true rfl) (SX4_refuseToken_0 ⟨by omega, by omega, fun z => ⟨h, by omega, fun N e => ?_⟩, fun z => ⟨h, by omega, fun N e => ?_⟩⟩)
  · rw [e]; unfold rtS; rw [if_neg (by show ¬ M 4 (M 7 4) = 4; exact z)]; rfl
  · rw [e]; unfold rtS; rw [if_pos (by show M 4 (M 7 4) = 4; exact z)]; rfl
end RD1
theorem dX4_expect_0 : decode cX4_expect 0 = .ok (.aload_n 0, 1) := by decide +kernel
theorem dX4_expect_1 : decode cX4_expect 1 = .ok (.getfield 18, 3) := by decide +kernel
theorem dX4_expect_4 : decode cX4_expect 4 = .ok (.ifCond .eq 4, 3) := by decide +kernel
theorem dX4_expect_7 : decode cX4_expect 7 = .ok (.return_, 1) := by decide +kernel
theorem dX4_expect_8 : decode cX4_expect 8 = .ok (.iload_n 1, 1) := by decide +kernel
theorem dX4_expect_9 : decode cX4_expect 9 = .ok (.ifCond .eq 10, 3) := by decide +kernel
theorem dX4_expect_12 : decode cX4_expect 12 = .ok (.aload_n 0, 1) := by decide +kernel
theorem dX4_expect_13 : decode cX4_expect 13 = .ok (.invokevirtual 86, 3) := by decide +kernel
theorem dX4_expect_16 : decode cX4_expect 16 = .ok (.goto 7, 3) := by decide +kernel
theorem dX4_expect_19 : decode cX4_expect 19 = .ok (.aload_n 0, 1) := by decide +kernel
theorem dX4_expect_20 : decode cX4_expect 20 = .ok (.invokevirtual 76, 3) := by decide +kernel
theorem dX4_expect_23 : decode cX4_expect 23 = .ok (.return_, 1) := by decide +kernel
set_option maxRecDepth 100000 in
theorem SX4_expect_0 {g : zG} {o : Bool} {M : zM} {q : zM → Prop} {x1 : Int} (W : (-2147483648 ≤ (M 7 2) ∧ (M 7 2) ≤ 2147483647) ∧ (((M 7 2) = 0) → (-2147483648 ≤ x1 ∧ x1 ≤ 2147483647) ∧ ((x1 = 0) → (rdO M) ∧ ∀ N6 : zM, N6 = pst M (rtS (M 4) (M 5) (gst M)) → q N6) ∧ ((¬ (x1 = 0)) → (rdO M) ∧ ∀ N10 : zM, N10 = pst M (adS (M 4) (gst M)) → q N10)) ∧ ((¬ ((M 7 2) = 0)) → q M)) : zT g (z1 o) mX4_expect (zQv (z1 o) q) 0 [(0, zA g 7), (1, zI x1)] [] M := by
  refine zr_aload_n 0 dX4_expect_0 rfl ?_
  refine zt_geti 2 rfl dX4_expect_1 fX4_18 rfl (by decide) ?_
  obtain ⟨c1, W⟩ := W
  refine zr_if_eq (tgt := 8) dX4_expect_4 (by decide) c1 (fun h => ?_) (fun h => ?_)
  · have W := W.1 h
    refine zr_iload_n 1 dX4_expect_8 rfl ?_
    obtain ⟨c2, W⟩ := W
    refine zr_if_eq (tgt := 19) dX4_expect_9 (by decide) c2 (fun h => ?_) (fun h => ?_)
    · have W := W.1 h
      refine zr_aload_n 0 dX4_expect_19 rfl ?_
      obtain ⟨c3, W⟩ := W
      refine zt_callVv (As := []) (rest := []) dX4_expect_20 kX4_expect_76 rfl rfl rfl rfl (Nat.le_of_ble_eq_true rfl) (c_refuseToken c3) (fun N6 h5 => ?_)
      have W := W N6 h5
      exact zt_ret dX4_expect_23 rfl W
    · have W := W.2 h
      refine zr_aload_n 0 dX4_expect_12 rfl ?_
      obtain ⟨c7, W⟩ := W
      refine zt_callVv (As := []) (rest := []) dX4_expect_13 kX4_expect_86 rfl rfl rfl rfl (Nat.le_of_ble_eq_true rfl) (c_advance c7) (fun N10 h9 => ?_)
      have W := W N10 h9
      refine zr_goto (tgt := 23) dX4_expect_16 (by decide) ?_
      exact zt_ret dX4_expect_23 rfl W
  · have W := W.2 h
    exact zt_ret dX4_expect_7 rfl W
theorem dX4_readNumber_0 : decode cX4_readNumber 0 = .ok (.aload_n 0, 1) := by decide +kernel
theorem dX4_readNumber_1 : decode cX4_readNumber 1 = .ok (.getfield 18, 3) := by decide +kernel
theorem dX4_readNumber_4 : decode cX4_readNumber 4 = .ok (.ifCond .ne 15, 3) := by decide +kernel
theorem dX4_readNumber_7 : decode cX4_readNumber 7 = .ok (.aload_n 0, 1) := by decide +kernel
theorem dX4_readNumber_8 : decode cX4_readNumber 8 = .ok (.invokevirtual 40, 3) := by decide +kernel
theorem dX4_readNumber_11 : decode cX4_readNumber 11 = .ok (.iconst 2, 1) := by decide +kernel
theorem dX4_readNumber_12 : decode cX4_readNumber 12 = .ok (.if_icmp .eq 7, 3) := by decide +kernel
theorem dX4_readNumber_15 : decode cX4_readNumber 15 = .ok (.aload_n 0, 1) := by decide +kernel
theorem dX4_readNumber_16 : decode cX4_readNumber 16 = .ok (.invokevirtual 76, 3) := by decide +kernel
theorem dX4_readNumber_19 : decode cX4_readNumber 19 = .ok (.aload_n 0, 1) := by decide +kernel
theorem dX4_readNumber_20 : decode cX4_readNumber 20 = .ok (.invokevirtual 73, 3) := by decide +kernel
theorem dX4_readNumber_23 : decode cX4_readNumber 23 = .ok (.istore_n 3, 1) := by decide +kernel
theorem dX4_readNumber_24 : decode cX4_readNumber 24 = .ok (.aload_n 0, 1) := by decide +kernel
theorem dX4_readNumber_25 : decode cX4_readNumber 25 = .ok (.getfield 18, 3) := by decide +kernel
theorem dX4_readNumber_28 : decode cX4_readNumber 28 = .ok (.ifCond .ne 22, 3) := by decide +kernel
theorem dX4_readNumber_31 : decode cX4_readNumber 31 = .ok (.iload_n 3, 1) := by decide +kernel
theorem dX4_readNumber_32 : decode cX4_readNumber 32 = .ok (.iload_n 1, 1) := by decide +kernel
theorem dX4_readNumber_33 : decode cX4_readNumber 33 = .ok (.if_icmp .lt 8, 3) := by decide +kernel
theorem dX4_readNumber_36 : decode cX4_readNumber 36 = .ok (.iload_n 3, 1) := by decide +kernel
theorem dX4_readNumber_37 : decode cX4_readNumber 37 = .ok (.iload_n 2, 1) := by decide +kernel
theorem dX4_readNumber_38 : decode cX4_readNumber 38 = .ok (.if_icmp .le 12, 3) := by decide +kernel
theorem dX4_readNumber_41 : decode cX4_readNumber 41 = .ok (.aload_n 0, 1) := by decide +kernel
theorem dX4_readNumber_42 : decode cX4_readNumber 42 = .ok (.iconst 4, 1) := by decide +kernel
theorem dX4_readNumber_43 : decode cX4_readNumber 43 = .ok (.aload_n 0, 1) := by decide +kernel
theorem dX4_readNumber_44 : decode cX4_readNumber 44 = .ok (.getfield 25, 3) := by decide +kernel
theorem dX4_readNumber_47 : decode cX4_readNumber 47 = .ok (.invokevirtual 69, 3) := by decide +kernel
theorem dX4_readNumber_50 : decode cX4_readNumber 50 = .ok (.aload_n 0, 1) := by decide +kernel
theorem dX4_readNumber_51 : decode cX4_readNumber 51 = .ok (.getfield 18, 3) := by decide +kernel
theorem dX4_readNumber_54 : decode cX4_readNumber 54 = .ok (.ifCond .eq 5, 3) := by decide +kernel
theorem dX4_readNumber_57 : decode cX4_readNumber 57 = .ok (.iload_n 1, 1) := by decide +kernel
theorem dX4_readNumber_58 : decode cX4_readNumber 58 = .ok (.ireturn, 1) := by decide +kernel
theorem dX4_readNumber_59 : decode cX4_readNumber 59 = .ok (.aload_n 0, 1) := by decide +kernel
theorem dX4_readNumber_60 : decode cX4_readNumber 60 = .ok (.invokevirtual 86, 3) := by decide +kernel
theorem dX4_readNumber_63 : decode cX4_readNumber 63 = .ok (.iload_n 3, 1) := by decide +kernel
theorem dX4_readNumber_64 : decode cX4_readNumber 64 = .ok (.ireturn, 1) := by decide +kernel
set_option maxRecDepth 100000 in
theorem SX4_readNumber_0 {g : zG} {o : Bool} {M : zM} {q : Int → zM → Prop} {x1 x2 : Int} (W : (-2147483648 ≤ (M 7 2) ∧ (M 7 2) ≤ 2147483647) ∧ (((M 7 2) ≠ 0) → zT g (z1 o) mX4_readNumber (zQi (z1 o) q) 19 [(0, zA g 7), (1, zI x1), (2, zI x2)] [] M) ∧ (((M 7 2) = 0) → (0 ≤ M 7 4 ∧ M 7 4 < 901) ∧ (-2147483648 ≤ (M 4 (M 7 4)) ∧ (M 4 (M 7 4)) ≤ 2147483647) ∧ (((M 4 (M 7 4)) = 2) → zT g (z1 o) mX4_readNumber (zQi (z1 o) q) 19 [(0, zA g 7), (1, zI x1), (2, zI x2)] [] M) ∧ ((¬ ((M 4 (M 7 4)) = 2)) → (rdO M) ∧ ∀ N10 : zM, N10 = pst M (rtS (M 4) (M 5) (gst M)) → zT g (z1 o) mX4_readNumber (zQi (z1 o) q) 19 [(0, zA g 7), (1, zI x1), (2, zI x2)] [] N10))) : zT g (z1 o) mX4_readNumber (zQi (z1 o) q) 0 [(0, zA g 7), (1, zI x1), (2, zI x2)] [] M := by
  refine zr_aload_n 0 dX4_readNumber_0 rfl ?_
  refine zt_geti 2 rfl dX4_readNumber_1 fX4_18 rfl (by decide) ?_
  obtain ⟨c1, W⟩ := W
  refine zr_if_ne (tgt := 19) dX4_readNumber_4 (by decide) c1 (fun h => ?_) (fun h => ?_)
  · have W := W.1 h
    exact W
  · have W := W.2 h
    refine zr_aload_n 0 dX4_readNumber_7 rfl ?_
    obtain ⟨c2, W⟩ := W
    refine zt_callVi (As := []) (rest := []) dX4_readNumber_8 kX4_readNumber_40 rfl rfl rfl rfl (Nat.le_of_ble_eq_true rfl) (c_kind c2) (fun r3 N5 h4 => ?_)
    rw [h4.1, h4.2]
    refine zr_iconst dX4_readNumber_11 ?_
    obtain ⟨c6, W⟩ := W
    refine zr_icmp_eq (tgt := 19) dX4_readNumber_12 (by decide) c6 ⟨by decide, by decide⟩ (fun h => ?_) (fun h => ?_)
    · have W := W.1 h
      exact W
    · have W := W.2 h
      refine zr_aload_n 0 dX4_readNumber_15 rfl ?_
      obtain ⟨c7, W⟩ := W
      refine zt_callVv (As := []) (rest := []) dX4_readNumber_16 kX4_readNumber_76 rfl rfl rfl rfl (Nat.le_of_ble_eq_true rfl) (c_refuseToken c7) (fun N10 h9 => ?_)
      have W := W N10 h9
      exact W
set_option maxRecDepth 100000 in
theorem SX4_readNumber_19 {g : zG} {o : Bool} {M : zM} {q : Int → zM → Prop} {x1 x2 : Int} (W : (0 ≤ M 7 4 ∧ M 7 4 < 901) ∧ (-2147483648 ≤ (M 7 2) ∧ (M 7 2) ≤ 2147483647) ∧ (((M 7 2) ≠ 0) → (((M 7 2) = 0) → (rdO M) ∧ ∀ N9 : zM, N9 = pst M (adS (M 4) (gst M)) → q (M 6 (M 7 4)) N9) ∧ ((¬ ((M 7 2) = 0)) → q x1 M)) ∧ (((M 7 2) = 0) → (-2147483648 ≤ (M 6 (M 7 4)) ∧ (M 6 (M 7 4)) ≤ 2147483647) ∧ (-2147483648 ≤ x1 ∧ x1 ≤ 2147483647) ∧ (((M 6 (M 7 4)) < x1) → (rdO M) ∧ (0 ≤ (M 7 4) ∧ (M 7 4) < 901) ∧ ∀ N16 : zM, N16 = pst M (rfS (M 5) 4 (M 7 4) (gst M)) → (-2147483648 ≤ (N16 7 2) ∧ (N16 7 2) ≤ 2147483647) ∧ (((N16 7 2) = 0) → (rdO N16) ∧ ∀ N21 : zM, N21 = pst N16 (adS (N16 4) (gst N16)) → q (M 6 (M 7 4)) N21) ∧ ((¬ ((N16 7 2) = 0)) → q x1 N16)) ∧ ((¬ ((M 6 (M 7 4)) < x1)) → (-2147483648 ≤ x2 ∧ x2 ≤ 2147483647) ∧ (((M 6 (M 7 4)) ≤ x2) → (((M 7 2) = 0) → (rdO M) ∧ ∀ N26 : zM, N26 = pst M (adS (M 4) (gst M)) → q (M 6 (M 7 4)) N26) ∧ ((¬ ((M 7 2) = 0)) → q x1 M)) ∧ ((¬ ((M 6 (M 7 4)) ≤ x2)) → (rdO M) ∧ (0 ≤ (M 7 4) ∧ (M 7 4) < 901) ∧ ∀ N31 : zM, N31 = pst M (rfS (M 5) 4 (M 7 4) (gst M)) → (-2147483648 ≤ (N31 7 2) ∧ (N31 7 2) ≤ 2147483647) ∧ (((N31 7 2) = 0) → (rdO N31) ∧ ∀ N36 : zM, N36 = pst N31 (adS (N31 4) (gst N31)) → q (M 6 (M 7 4)) N36) ∧ ((¬ ((N31 7 2) = 0)) → q x1 N31))))) : zT g (z1 o) mX4_readNumber (zQi (z1 o) q) 19 [(0, zA g 7), (1, zI x1), (2, zI x2)] [] M := by
  refine zr_aload_n 0 dX4_readNumber_19 rfl ?_
  obtain ⟨c1, W⟩ := W
  refine zt_callVi (As := []) (rest := []) dX4_readNumber_20 kX4_readNumber_73 rfl rfl rfl rfl (Nat.le_of_ble_eq_true rfl) (c_value c1) (fun r2 N4 h3 => ?_)
  rw [h3.1, h3.2]
  refine zr_istore_n (l' := [(0, zA g 7), (1, zI x1), (2, zI x2), (3, zI (M 6 (M 7 4)))]) dX4_readNumber_23 (by decide) [1, 2, 3, 0] rfl ?_
  refine zr_aload_n 0 dX4_readNumber_24 rfl ?_
  refine zt_geti 2 rfl dX4_readNumber_25 fX4_18 rfl (by decide) ?_
  obtain ⟨c5, W⟩ := W
  refine zr_if_ne (tgt := 50) dX4_readNumber_28 (by decide) c5 (fun h => ?_) (fun h => ?_)
  · have W := W.1 h
    refine zr_aload_n 0 dX4_readNumber_50 rfl ?_
    refine zt_geti 2 rfl dX4_readNumber_51 fX4_18 rfl (by decide) ?_
    refine zr_if_eq (tgt := 59) dX4_readNumber_54 (by decide) c5 (fun h => ?_) (fun h => ?_)
    · have W := W.1 h
      refine zr_aload_n 0 dX4_readNumber_59 rfl ?_
      obtain ⟨c6, W⟩ := W
      refine zt_callVv (As := []) (rest := []) dX4_readNumber_60 kX4_readNumber_86 rfl rfl rfl rfl (Nat.le_of_ble_eq_true rfl) (c_advance c6) (fun N9 h8 => ?_)
      have W := W N9 h8
      refine zr_iload_n 3 dX4_readNumber_63 rfl ?_
      exact zt_iret dX4_readNumber_64 rfl W
    · have W := W.2 h
      refine zr_iload_n 1 dX4_readNumber_57 rfl ?_
      exact zt_iret dX4_readNumber_58 rfl W
  · have W := W.2 h
    refine zr_iload_n 3 dX4_readNumber_31 rfl ?_
    refine zr_iload_n 1 dX4_readNumber_32 rfl ?_
    obtain ⟨c10, W⟩ := W
    obtain ⟨c11, W⟩ := W
    refine zr_icmp_lt (tgt := 41) dX4_readNumber_33 (by decide) c10 c11 (fun h => ?_) (fun h => ?_)
    · have W := W.1 h
      refine zr_aload_n 0 dX4_readNumber_41 rfl ?_
      refine zr_iconst dX4_readNumber_42 ?_
      refine zr_aload_n 0 dX4_readNumber_43 rfl ?_
      refine zt_geti 4 rfl dX4_readNumber_44 fX4_25 rfl (by decide) ?_
      obtain ⟨c12, W⟩ := W
      obtain ⟨c13, W⟩ := W
      refine zt_callVv (As := [zI 4, zI (M 7 4)]) (rest := []) dX4_readNumber_47 kX4_readNumber_69 rfl rfl rfl rfl (Nat.le_of_ble_eq_true rfl) (c_refuse c12 c13) (fun N16 h15 => ?_)
      have W := W N16 h15
      refine zr_aload_n 0 dX4_readNumber_50 rfl ?_
      refine zt_geti 2 rfl dX4_readNumber_51 fX4_18 rfl (by decide) ?_
      obtain ⟨c17, W⟩ := W
      refine zr_if_eq (tgt := 59) dX4_readNumber_54 (by decide) c17 (fun h => ?_) (fun h => ?_)
      · have W := W.1 h
        refine zr_aload_n 0 dX4_readNumber_59 rfl ?_
        obtain ⟨c18, W⟩ := W
        refine zt_callVv (As := []) (rest := []) dX4_readNumber_60 kX4_readNumber_86 rfl rfl rfl rfl (Nat.le_of_ble_eq_true rfl) (c_advance c18) (fun N21 h20 => ?_)
        have W := W N21 h20
        refine zr_iload_n 3 dX4_readNumber_63 rfl ?_
        exact zt_iret dX4_readNumber_64 rfl W
      · have W := W.2 h
        refine zr_iload_n 1 dX4_readNumber_57 rfl ?_
        exact zt_iret dX4_readNumber_58 rfl W
    · have W := W.2 h
      refine zr_iload_n 3 dX4_readNumber_36 rfl ?_
      refine zr_iload_n 2 dX4_readNumber_37 rfl ?_
      obtain ⟨c22, W⟩ := W
      refine zr_icmp_le (tgt := 50) dX4_readNumber_38 (by decide) c10 c22 (fun h => ?_) (fun h => ?_)
      · have W := W.1 h
        refine zr_aload_n 0 dX4_readNumber_50 rfl ?_
        refine zt_geti 2 rfl dX4_readNumber_51 fX4_18 rfl (by decide) ?_
        refine zr_if_eq (tgt := 59) dX4_readNumber_54 (by decide) c5 (fun h => ?_) (fun h => ?_)
        · have W := W.1 h
          refine zr_aload_n 0 dX4_readNumber_59 rfl ?_
          obtain ⟨c23, W⟩ := W
          refine zt_callVv (As := []) (rest := []) dX4_readNumber_60 kX4_readNumber_86 rfl rfl rfl rfl (Nat.le_of_ble_eq_true rfl) (c_advance c23) (fun N26 h25 => ?_)
          have W := W N26 h25
          refine zr_iload_n 3 dX4_readNumber_63 rfl ?_
          exact zt_iret dX4_readNumber_64 rfl W
        · have W := W.2 h
          refine zr_iload_n 1 dX4_readNumber_57 rfl ?_
          exact zt_iret dX4_readNumber_58 rfl W
      · have W := W.2 h
        refine zr_aload_n 0 dX4_readNumber_41 rfl ?_
        refine zr_iconst dX4_readNumber_42 ?_
        refine zr_aload_n 0 dX4_readNumber_43 rfl ?_
        refine zt_geti 4 rfl dX4_readNumber_44 fX4_25 rfl (by decide) ?_
        obtain ⟨c27, W⟩ := W
        obtain ⟨c28, W⟩ := W
        refine zt_callVv (As := [zI 4, zI (M 7 4)]) (rest := []) dX4_readNumber_47 kX4_readNumber_69 rfl rfl rfl rfl (Nat.le_of_ble_eq_true rfl) (c_refuse c27 c28) (fun N31 h30 => ?_)
        have W := W N31 h30
        refine zr_aload_n 0 dX4_readNumber_50 rfl ?_
        refine zt_geti 2 rfl dX4_readNumber_51 fX4_18 rfl (by decide) ?_
        obtain ⟨c32, W⟩ := W
        refine zr_if_eq (tgt := 59) dX4_readNumber_54 (by decide) c32 (fun h => ?_) (fun h => ?_)
        · have W := W.1 h
          refine zr_aload_n 0 dX4_readNumber_59 rfl ?_
          obtain ⟨c33, W⟩ := W
          refine zt_callVv (As := []) (rest := []) dX4_readNumber_60 kX4_readNumber_86 rfl rfl rfl rfl (Nat.le_of_ble_eq_true rfl) (c_advance c33) (fun N36 h35 => ?_)
          have W := W N36 h35
          refine zr_iload_n 3 dX4_readNumber_63 rfl ?_
          exact zt_iret dX4_readNumber_64 rfl W
        · have W := W.2 h
          refine zr_iload_n 1 dX4_readNumber_57 rfl ?_
          exact zt_iret dX4_readNumber_58 rfl W
theorem dX0_isTold_0 : decode cX0_isTold 0 = .ok (.aload_n 0, 1) := by decide +kernel
theorem dX0_isTold_1 : decode cX0_isTold 1 = .ok (.getfield 49, 3) := by decide +kernel
theorem dX0_isTold_4 : decode cX0_isTold 4 = .ok (.iload_n 1, 1) := by decide +kernel
theorem dX0_isTold_5 : decode cX0_isTold 5 = .ok (.ishr, 1) := by decide +kernel
theorem dX0_isTold_6 : decode cX0_isTold 6 = .ok (.iconst 1, 1) := by decide +kernel
theorem dX0_isTold_7 : decode cX0_isTold 7 = .ok (.iand, 1) := by decide +kernel
theorem dX0_isTold_8 : decode cX0_isTold 8 = .ok (.iconst 1, 1) := by decide +kernel
theorem dX0_isTold_9 : decode cX0_isTold 9 = .ok (.if_icmp .ne 7, 3) := by decide +kernel
theorem dX0_isTold_12 : decode cX0_isTold 12 = .ok (.iconst 1, 1) := by decide +kernel
theorem dX0_isTold_13 : decode cX0_isTold 13 = .ok (.goto 4, 3) := by decide +kernel
theorem dX0_isTold_16 : decode cX0_isTold 16 = .ok (.iconst 0, 1) := by decide +kernel
theorem dX0_isTold_17 : decode cX0_isTold 17 = .ok (.ireturn, 1) := by decide +kernel
set_option maxRecDepth 100000 in
theorem SX0_isTold_0 {g : zG} {o : Bool} {M : zM} {q : Int → zM → Prop} {x1 : Int} (W : (-2147483648 ≤ (M 8 7) ∧ (M 8 7) ≤ 2147483647) ∧ (0 ≤ x1 ∧ x1 ≤ 31) ∧ (-2147483648 ≤ (((M 8 7) / (2 ^ Int.toNat x1 : Nat)) % (1 + 1)) ∧ (((M 8 7) / (2 ^ Int.toNat x1 : Nat)) % (1 + 1)) ≤ 2147483647) ∧ (((((M 8 7) / (2 ^ Int.toNat x1 : Nat)) % (1 + 1)) ≠ 1) → q 0 M) ∧ (((((M 8 7) / (2 ^ Int.toNat x1 : Nat)) % (1 + 1)) = 1) → q 1 M)) : zT g (z1 o) mX0_isTold (zQi (z1 o) q) 0 [(0, zA g 8), (1, zI x1)] [] M := by
  refine zr_aload_n 0 dX0_isTold_0 rfl ?_
  refine zt_geti 7 rfl dX0_isTold_1 fX0_49 rfl (by decide) ?_
  refine zr_iload_n 1 dX0_isTold_4 rfl ?_
  obtain ⟨c1, W⟩ := W
  obtain ⟨c2, W⟩ := W
  refine zr_ishr dX0_isTold_5 c1 c2 ?_
  refine zr_iconst dX0_isTold_6 ?_
  refine zr_iand dX0_isTold_7 (by decide) ?_
  refine zr_iconst dX0_isTold_8 ?_
  obtain ⟨c3, W⟩ := W
  refine zr_icmp_ne (tgt := 16) dX0_isTold_9 (by decide) c3 ⟨by decide, by decide⟩ (fun h => ?_) (fun h => ?_)
  · have W := W.1 h
    refine zr_iconst dX0_isTold_16 ?_
    exact zt_zret dX0_isTold_17 rfl (by decide) W
  · have W := W.2 h
    refine zr_iconst dX0_isTold_12 ?_
    refine zr_goto (tgt := 17) dX0_isTold_13 (by decide) ?_
    exact zt_zret dX0_isTold_17 rfl (by decide) W
theorem dX0_setTold_0 : decode cX0_setTold 0 = .ok (.aload_n 0, 1) := by decide +kernel
theorem dX0_setTold_1 : decode cX0_setTold 1 = .ok (.dup, 1) := by decide +kernel
theorem dX0_setTold_2 : decode cX0_setTold 2 = .ok (.getfield 49, 3) := by decide +kernel
theorem dX0_setTold_5 : decode cX0_setTold 5 = .ok (.iconst 1, 1) := by decide +kernel
theorem dX0_setTold_6 : decode cX0_setTold 6 = .ok (.iload_n 1, 1) := by decide +kernel
theorem dX0_setTold_7 : decode cX0_setTold 7 = .ok (.ishl, 1) := by decide +kernel
theorem dX0_setTold_8 : decode cX0_setTold 8 = .ok (.ior, 1) := by decide +kernel
theorem dX0_setTold_9 : decode cX0_setTold 9 = .ok (.putfield 49, 3) := by decide +kernel
theorem dX0_setTold_12 : decode cX0_setTold 12 = .ok (.return_, 1) := by decide +kernel
set_option maxRecDepth 100000 in
theorem SX0_setTold_0 {g : zG} {o : Bool} {M : zM} {q : zM → Prop} {x1 : Int} (W : (0 ≤ x1 ∧ x1 ≤ 30) ∧ (0 ≤ (M 8 7) ∧ (M 8 7) ≤ 2147483647) ∧ (0 ≤ ((2 ^ Int.toNat x1 : Nat) : Int) ∧ ((2 ^ Int.toNat x1 : Nat) : Int) ≤ 2147483647) ∧ q (zu M 8 7 ((Int.toNat (M 8 7) ||| Int.toNat ((2 ^ Int.toNat x1 : Nat) : Int) : Nat) : Int))) : zT g (z1 o) mX0_setTold (zQv (z1 o) q) 0 [(0, zA g 8), (1, zI x1)] [] M := by
  refine zr_aload_n 0 dX0_setTold_0 rfl ?_
  refine zr_dup dX0_setTold_1 rfl ?_
  refine zt_geti 7 rfl dX0_setTold_2 fX0_49 rfl (by decide) ?_
  refine zr_iconst dX0_setTold_5 ?_
  refine zr_iload_n 1 dX0_setTold_6 rfl ?_
  obtain ⟨c1, W⟩ := W
  refine zr_ishl dX0_setTold_7 c1 ?_
  obtain ⟨c2, W⟩ := W
  obtain ⟨c3, W⟩ := W
  refine zr_ior dX0_setTold_8 c2 c3 ?_
  refine zt_puti 7 rfl dX0_setTold_9 fX0_49 lcX0 ltX0_7 rfl rfl ?_
  exact zt_ret dX0_setTold_12 rfl W
theorem dX0_clear_0 : decode cX0_clear 0 = .ok (.aload_n 0, 1) := by decide +kernel
theorem dX0_clear_1 : decode cX0_clear 1 = .ok (.bipush 8, 2) := by decide +kernel
theorem dX0_clear_3 : decode cX0_clear 3 = .ok (.putfield 30, 3) := by decide +kernel
theorem dX0_clear_6 : decode cX0_clear 6 = .ok (.aload_n 0, 1) := by decide +kernel
theorem dX0_clear_7 : decode cX0_clear 7 = .ok (.iconst 4, 1) := by decide +kernel
theorem dX0_clear_8 : decode cX0_clear 8 = .ok (.putfield 34, 3) := by decide +kernel
theorem dX0_clear_11 : decode cX0_clear 11 = .ok (.aload_n 0, 1) := by decide +kernel
theorem dX0_clear_12 : decode cX0_clear 12 = .ok (.iconst 3, 1) := by decide +kernel
theorem dX0_clear_13 : decode cX0_clear 13 = .ok (.putfield 37, 3) := by decide +kernel
theorem dX0_clear_16 : decode cX0_clear 16 = .ok (.aload_n 0, 1) := by decide +kernel
theorem dX0_clear_17 : decode cX0_clear 17 = .ok (.iconst 2, 1) := by decide +kernel
theorem dX0_clear_18 : decode cX0_clear 18 = .ok (.putfield 40, 3) := by decide +kernel
theorem dX0_clear_21 : decode cX0_clear 21 = .ok (.aload_n 0, 1) := by decide +kernel
theorem dX0_clear_22 : decode cX0_clear 22 = .ok (.iconst 0, 1) := by decide +kernel
theorem dX0_clear_23 : decode cX0_clear 23 = .ok (.putfield 43, 3) := by decide +kernel
theorem dX0_clear_26 : decode cX0_clear 26 = .ok (.aload_n 0, 1) := by decide +kernel
theorem dX0_clear_27 : decode cX0_clear 27 = .ok (.iconst 0, 1) := by decide +kernel
theorem dX0_clear_28 : decode cX0_clear 28 = .ok (.putfield 46, 3) := by decide +kernel
theorem dX0_clear_31 : decode cX0_clear 31 = .ok (.aload_n 0, 1) := by decide +kernel
theorem dX0_clear_32 : decode cX0_clear 32 = .ok (.iconst 0, 1) := by decide +kernel
theorem dX0_clear_33 : decode cX0_clear 33 = .ok (.putfield 49, 3) := by decide +kernel
theorem dX0_clear_36 : decode cX0_clear 36 = .ok (.aload_n 0, 1) := by decide +kernel
theorem dX0_clear_37 : decode cX0_clear 37 = .ok (.getfield 9, 3) := by decide +kernel
theorem dX0_clear_40 : decode cX0_clear 40 = .ok (.iconst 0, 1) := by decide +kernel
theorem dX0_clear_41 : decode cX0_clear 41 = .ok (.iconst 2, 1) := by decide +kernel
theorem dX0_clear_42 : decode cX0_clear 42 = .ok (.iastore, 1) := by decide +kernel
theorem dX0_clear_43 : decode cX0_clear 43 = .ok (.aload_n 0, 1) := by decide +kernel
theorem dX0_clear_44 : decode cX0_clear 44 = .ok (.getfield 9, 3) := by decide +kernel
theorem dX0_clear_47 : decode cX0_clear 47 = .ok (.iconst 1, 1) := by decide +kernel
theorem dX0_clear_48 : decode cX0_clear 48 = .ok (.iconst 2, 1) := by decide +kernel
theorem dX0_clear_49 : decode cX0_clear 49 = .ok (.iastore, 1) := by decide +kernel
theorem dX0_clear_50 : decode cX0_clear 50 = .ok (.aload_n 0, 1) := by decide +kernel
theorem dX0_clear_51 : decode cX0_clear 51 = .ok (.getfield 9, 3) := by decide +kernel
theorem dX0_clear_54 : decode cX0_clear 54 = .ok (.iconst 2, 1) := by decide +kernel
theorem dX0_clear_55 : decode cX0_clear 55 = .ok (.bipush 10, 2) := by decide +kernel
theorem dX0_clear_57 : decode cX0_clear 57 = .ok (.iastore, 1) := by decide +kernel
theorem dX0_clear_58 : decode cX0_clear 58 = .ok (.aload_n 0, 1) := by decide +kernel
theorem dX0_clear_59 : decode cX0_clear 59 = .ok (.getfield 9, 3) := by decide +kernel
theorem dX0_clear_62 : decode cX0_clear 62 = .ok (.iconst 3, 1) := by decide +kernel
theorem dX0_clear_63 : decode cX0_clear 63 = .ok (.bipush 6, 2) := by decide +kernel
theorem dX0_clear_65 : decode cX0_clear 65 = .ok (.iastore, 1) := by decide +kernel
theorem dX0_clear_66 : decode cX0_clear 66 = .ok (.aload_n 0, 1) := by decide +kernel
theorem dX0_clear_67 : decode cX0_clear 67 = .ok (.getfield 15, 3) := by decide +kernel
theorem dX0_clear_70 : decode cX0_clear 70 = .ok (.iconst 0, 1) := by decide +kernel
theorem dX0_clear_71 : decode cX0_clear 71 = .ok (.invokestatic 52, 3) := by decide +kernel
theorem dX0_clear_74 : decode cX0_clear 74 = .ok (.aload_n 0, 1) := by decide +kernel
theorem dX0_clear_75 : decode cX0_clear 75 = .ok (.getfield 18, 3) := by decide +kernel
theorem dX0_clear_78 : decode cX0_clear 78 = .ok (.iconst 0, 1) := by decide +kernel
theorem dX0_clear_79 : decode cX0_clear 79 = .ok (.invokestatic 52, 3) := by decide +kernel
theorem dX0_clear_82 : decode cX0_clear 82 = .ok (.aload_n 0, 1) := by decide +kernel
theorem dX0_clear_83 : decode cX0_clear 83 = .ok (.iconst 1, 1) := by decide +kernel
theorem dX0_clear_84 : decode cX0_clear 84 = .ok (.putfield 58, 3) := by decide +kernel
theorem dX0_clear_87 : decode cX0_clear 87 = .ok (.aload_n 0, 1) := by decide +kernel
theorem dX0_clear_88 : decode cX0_clear 88 = .ok (.getfield 21, 3) := by decide +kernel
theorem dX0_clear_91 : decode cX0_clear 91 = .ok (.iconst 0, 1) := by decide +kernel
theorem dX0_clear_92 : decode cX0_clear 92 = .ok (.iconst 0, 1) := by decide +kernel
theorem dX0_clear_93 : decode cX0_clear 93 = .ok (.iastore, 1) := by decide +kernel
theorem dX0_clear_94 : decode cX0_clear 94 = .ok (.aload_n 0, 1) := by decide +kernel
theorem dX0_clear_95 : decode cX0_clear 95 = .ok (.getfield 24, 3) := by decide +kernel
theorem dX0_clear_98 : decode cX0_clear 98 = .ok (.iconst 0, 1) := by decide +kernel
theorem dX0_clear_99 : decode cX0_clear 99 = .ok (.iconst 1, 1) := by decide +kernel
theorem dX0_clear_100 : decode cX0_clear 100 = .ok (.iastore, 1) := by decide +kernel
theorem dX0_clear_101 : decode cX0_clear 101 = .ok (.return_, 1) := by decide +kernel
set_option maxRecDepth 100000 in
theorem SX0_clear_0 {g : zG} {o : Bool} {M : zM} {q : zM → Prop} (W : ∀ N1 : zM, N1 = zu M 8 0 8 → ∀ N3 : zM, N3 = zu N1 8 1 4 → ∀ N5 : zM, N5 = zu N3 8 2 3 → ∀ N7 : zM, N7 = zu N5 8 3 2 → ∀ N9 : zM, N9 = zu N7 8 4 0 → ∀ N11 : zM, N11 = zu N9 8 5 0 → ∀ N13 : zM, N13 = zu N11 8 7 0 → ∀ N15 : zM, N15 = zu N13 9 0 2 → ∀ N17 : zM, N17 = zu N15 9 1 2 → ∀ N19 : zM, N19 = zu N17 9 2 10 → ∃ q21 : zM → Prop, zKv g (z1 o) mJ7_fill_53178 [zA g 10, zI 0] (zu N19 9 3 6) q21 ∧ ∀ M23 : zM, q21 M23 → ∃ q26 : zM → Prop, zKv g (z1 o) mJ7_fill_53178 [zA g 11, zI 0] M23 q26 ∧ ∀ M28 : zM, q26 M28 → ∀ N31 : zM, N31 = zu M28 8 6 1 → ∀ N33 : zM, N33 = zu N31 12 0 0 → q (zu N33 13 0 1)) : zT g (z1 o) mX0_clear (zQv (z1 o) q) 0 [(0, zA g 8)] [] M := by
  refine zr_aload_n 0 dX0_clear_0 rfl ?_
  refine zr_bipush dX0_clear_1 (by decide) ?_
  refine zt_puti 0 rfl dX0_clear_3 fX0_30 lcX0 ltX0_0 rfl rfl ?_
  refine zr_aload_n 0 dX0_clear_6 rfl ?_
  refine zr_iconst dX0_clear_7 ?_
  obtain ⟨N1, e2⟩ : ∃ N : zM, N = zu M 8 0 8 := ⟨_, rfl⟩
  rw [← e2]
  have W := W N1 e2
  refine zt_puti 1 rfl dX0_clear_8 fX0_34 lcX0 ltX0_1 rfl rfl ?_
  refine zr_aload_n 0 dX0_clear_11 rfl ?_
  refine zr_iconst dX0_clear_12 ?_
  obtain ⟨N3, e4⟩ : ∃ N : zM, N = zu N1 8 1 4 := ⟨_, rfl⟩
  rw [← e4]
  have W := W N3 e4
  refine zt_puti 2 rfl dX0_clear_13 fX0_37 lcX0 ltX0_2 rfl rfl ?_
  refine zr_aload_n 0 dX0_clear_16 rfl ?_
  refine zr_iconst dX0_clear_17 ?_
  obtain ⟨N5, e6⟩ : ∃ N : zM, N = zu N3 8 2 3 := ⟨_, rfl⟩
  rw [← e6]
  have W := W N5 e6
  refine zt_puti 3 rfl dX0_clear_18 fX0_40 lcX0 ltX0_3 rfl rfl ?_
  refine zr_aload_n 0 dX0_clear_21 rfl ?_
  refine zr_iconst dX0_clear_22 ?_
  obtain ⟨N7, e8⟩ : ∃ N : zM, N = zu N5 8 3 2 := ⟨_, rfl⟩
  rw [← e8]
  have W := W N7 e8
  refine zt_puti 4 rfl dX0_clear_23 fX0_43 lcX0 ltX0_4 rfl rfl ?_
  refine zr_aload_n 0 dX0_clear_26 rfl ?_
  refine zr_iconst dX0_clear_27 ?_
  obtain ⟨N9, e10⟩ : ∃ N : zM, N = zu N7 8 4 0 := ⟨_, rfl⟩
  rw [← e10]
  have W := W N9 e10
  refine zt_puti 5 rfl dX0_clear_28 fX0_46 lcX0 ltX0_5 rfl rfl ?_
  refine zr_aload_n 0 dX0_clear_31 rfl ?_
  refine zr_iconst dX0_clear_32 ?_
  obtain ⟨N11, e12⟩ : ∃ N : zM, N = zu N9 8 5 0 := ⟨_, rfl⟩
  rw [← e12]
  have W := W N11 e12
  refine zt_puti 7 rfl dX0_clear_33 fX0_49 lcX0 ltX0_7 rfl rfl ?_
  refine zr_aload_n 0 dX0_clear_36 rfl ?_
  refine zr_getr (b := 9) dX0_clear_37 fX0_9 rfl rfl rfl (by decide) ?_
  refine zr_iconst dX0_clear_40 ?_
  refine zr_iconst dX0_clear_41 ?_
  obtain ⟨N13, e14⟩ : ∃ N : zM, N = zu N11 8 7 0 := ⟨_, rfl⟩
  rw [← e14]
  have W := W N13 e14
  refine zr_iast dX0_clear_42 rfl (by decide) ⟨by decide, by decide⟩ ?_
  refine zr_aload_n 0 dX0_clear_43 rfl ?_
  refine zr_getr (b := 9) dX0_clear_44 fX0_9 rfl rfl rfl (by decide) ?_
  refine zr_iconst dX0_clear_47 ?_
  refine zr_iconst dX0_clear_48 ?_
  obtain ⟨N15, e16⟩ : ∃ N : zM, N = zu N13 9 0 2 := ⟨_, rfl⟩
  rw [← e16]
  have W := W N15 e16
  refine zr_iast dX0_clear_49 rfl (by decide) ⟨by decide, by decide⟩ ?_
  refine zr_aload_n 0 dX0_clear_50 rfl ?_
  refine zr_getr (b := 9) dX0_clear_51 fX0_9 rfl rfl rfl (by decide) ?_
  refine zr_iconst dX0_clear_54 ?_
  refine zr_bipush dX0_clear_55 (by decide) ?_
  obtain ⟨N17, e18⟩ : ∃ N : zM, N = zu N15 9 1 2 := ⟨_, rfl⟩
  rw [← e18]
  have W := W N17 e18
  refine zr_iast dX0_clear_57 rfl (by decide) ⟨by decide, by decide⟩ ?_
  refine zr_aload_n 0 dX0_clear_58 rfl ?_
  refine zr_getr (b := 9) dX0_clear_59 fX0_9 rfl rfl rfl (by decide) ?_
  refine zr_iconst dX0_clear_62 ?_
  refine zr_bipush dX0_clear_63 (by decide) ?_
  obtain ⟨N19, e20⟩ : ∃ N : zM, N = zu N17 9 2 10 := ⟨_, rfl⟩
  rw [← e20]
  have W := W N19 e20
  refine zr_iast dX0_clear_65 rfl (by decide) ⟨by decide, by decide⟩ ?_
  refine zr_aload_n 0 dX0_clear_66 rfl ?_
  refine zr_getr (b := 10) dX0_clear_67 fX0_15 rfl rfl rfl (by decide) ?_
  refine zr_iconst dX0_clear_70 ?_
  obtain ⟨q21, k25, W⟩ := W
  refine zt_callSv (As := [zA g 10, zI 0]) (rest := []) dX0_clear_71 kX0_clear_52 rfl rfl (Nat.le_of_ble_eq_true rfl) k25 (fun M23 h24 => ?_)
  have W := W M23 h24
  refine zr_aload_n 0 dX0_clear_74 rfl ?_
  refine zr_getr (b := 11) dX0_clear_75 fX0_18 rfl rfl rfl (by decide) ?_
  refine zr_iconst dX0_clear_78 ?_
  obtain ⟨q26, k30, W⟩ := W
  refine zt_callSv (As := [zA g 11, zI 0]) (rest := []) dX0_clear_79 kX0_clear_52 rfl rfl (Nat.le_of_ble_eq_true rfl) k30 (fun M28 h29 => ?_)
  have W := W M28 h29
  refine zr_aload_n 0 dX0_clear_82 rfl ?_
  refine zr_iconst dX0_clear_83 ?_
  refine zt_puti 6 rfl dX0_clear_84 fX0_58 lcX0 ltX0_6 rfl rfl ?_
  refine zr_aload_n 0 dX0_clear_87 rfl ?_
  refine zr_getr (b := 12) dX0_clear_88 fX0_21 rfl rfl rfl (by decide) ?_
  refine zr_iconst dX0_clear_91 ?_
  refine zr_iconst dX0_clear_92 ?_
  obtain ⟨N31, e32⟩ : ∃ N : zM, N = zu M28 8 6 1 := ⟨_, rfl⟩
  rw [← e32]
  have W := W N31 e32
  refine zr_iast dX0_clear_93 rfl (by decide) ⟨by decide, by decide⟩ ?_
  refine zr_aload_n 0 dX0_clear_94 rfl ?_
  refine zr_getr (b := 13) dX0_clear_95 fX0_24 rfl rfl rfl (by decide) ?_
  refine zr_iconst dX0_clear_98 ?_
  refine zr_iconst dX0_clear_99 ?_
  obtain ⟨N33, e34⟩ : ∃ N : zM, N = zu N31 12 0 0 := ⟨_, rfl⟩
  rw [← e34]
  have W := W N33 e34
  refine zr_iast dX0_clear_100 rfl (by decide) ⟨by decide, by decide⟩ ?_
  exact zt_ret dX0_clear_101 rfl W
section RD1
variable {g : zG} {o : Bool} {M N : zM} {K Pl V : Int → Int} {s s' : Rs} {lo hi x c wh t : Int} {a : Nat}
theorem c_expect (h : rdO M) (hc : c = 0 ∨ c = 1) : zKv g (z1 o) mX4_expect [zA g 7, zI c] M (fun N => N = pst M (xpS (M 4) (M 5) c (gst M))) := by
  obtain ⟨r1, r2, r3, r4, r5, r6⟩ := h.rng
  have e : (gst M).2.1 = M 7 2 := rfl
  rw [e] at r6
  refine zkv_of rfl (Nat.le_of_ble_eq_true rfl) (SX4_expect_0 ⟨by omega, fun z => ⟨by omega, fun w => ⟨h, fun N e' => ?_⟩, fun w => ⟨h, fun N e' => ?_⟩⟩, fun z => ?_⟩)
  · rw [e']; unfold xpS; rw [if_pos (by rw [e]; exact z), if_pos w]
  · rw [e']; unfold xpS; rw [if_pos (by rw [e]; exact z), if_neg w]
  · unfold xpS; rw [if_neg (by rw [e]; exact z), pst_gst]
theorem c_readNumber (h : rdO M) (h1 : -2147483648 ≤ lo ∧ lo ≤ 2147483647) (h2 : -2147483648 ≤ hi ∧ hi ≤ 2147483647) : zKi g (z1 o) mX4_readNumber [zA g 7, zI lo, zI hi] M (fun r N => r = nmV (M 4) (M 6) lo hi (gst M) ∧ N = pst M (nmS (M 4) (M 5) (M 6) lo hi (gst M))) := by
  obtain ⟨r1, r2, r3, r4, r5, r6⟩ := h.rng
  have e1 : (gst M).1 = M 7 4 := rfl
  have e2 : (gst M).2.1 = M 7 2 := rfl
  rw [e1] at r1 r2 r3 r4 r5
  rw [e2] at r6
  have f0 : M 7 2 ≠ 0 → lo = nmV (M 4) (M 6) lo hi (gst M) ∧ M = pst M (nmS (M 4) (M 5) (M 6) lo hi (gst M)) := fun z => by
    refine ⟨?_, ?_⟩
    · unfold nmV; rw [if_neg (fun w => z w.1)]
    · unfold nmS; rw [if_neg (by rw [e2]; exact z), pst_gst]
  refine zki_of rfl (Nat.le_of_ble_eq_true rfl) (SX4_readNumber_0 ⟨by omega, fun z => ?_, fun z => ⟨by omega, by omega, fun w => ?_, fun w => ⟨h, fun N e => ?_⟩⟩⟩)
  · exact SX4_readNumber_19 ⟨by omega, by omega, fun _ => ⟨fun w => absurd w z, fun _ => f0 z⟩, fun w => absurd w z⟩
  · have v := r5 w
    have rf : ∀ N : zM, N = pst M (rfS (M 5) 4 (M 7 4) (gst M)) → N 7 2 = 4 := fun N e => by
      rw [e, pst_7.2.1]; unfold rfS; rw [if_pos (by rw [e2]; exact z)]
    have bad : ¬ (lo ≤ M 6 (M 7 4) ∧ M 6 (M 7 4) ≤ hi) → ∀ N : zM, N = pst M (rfS (M 5) 4 (M 7 4) (gst M)) → lo = nmV (M 4) (M 6) lo hi (gst M) ∧ N = pst M (nmS (M 4) (M 5) (M 6) lo hi (gst M)) := fun y N e => by
      refine ⟨?_, ?_⟩
      · unfold nmV; rw [if_neg (fun u => y u.2.2)]
      · rw [e]; unfold nmS; rw [if_pos (by rw [e2]; exact z), if_pos (by rw [e1]; exact w), if_neg (by rw [e1]; exact y)]; rfl
    have good : lo ≤ M 6 (M 7 4) ∧ M 6 (M 7 4) ≤ hi → ∀ N : zM, N = pst M (adS (M 4) (gst M)) → M 6 (M 7 4) = nmV (M 4) (M 6) lo hi (gst M) ∧ N = pst M (nmS (M 4) (M 5) (M 6) lo hi (gst M)) := fun y N e => by
      refine ⟨?_, ?_⟩
      · unfold nmV; rw [if_pos ⟨z, w, y⟩, e1]
      · rw [e]; unfold nmS; rw [if_pos (by rw [e2]; exact z), if_pos (by rw [e1]; exact w), if_pos (by rw [e1]; exact y)]
    exact SX4_readNumber_19 ⟨by omega, by omega, fun y => absurd z y, fun _ => ⟨by omega, h1, fun y => ⟨h, by omega, fun N e => ⟨by rw [rf N e]; decide, fun u => by rw [rf N e] at u; exact absurd u (by decide), fun _ => bad (fun u => by omega) N e⟩⟩, fun y => ⟨h2, fun u => ⟨fun _ => ⟨h, fun N e => good ⟨by omega, u⟩ N e⟩, fun u' => absurd z u'⟩, fun u => ⟨h, by omega, fun N e => ⟨by rw [rf N e]; decide, fun u' => by rw [rf N e] at u'; exact absurd u' (by decide), fun _ => bad (fun u' => by omega) N e⟩⟩⟩⟩⟩
  · have n2 : N 7 2 = (if M 4 (M 7 4) = 4 then 1 else 2) := by
      rw [e, pst_7.2.1]; unfold rtS rfS; rw [if_pos (by rw [e2]; exact z), e1]
    have n2' : N 7 2 ≠ 0 ∧ 0 ≤ N 7 2 ∧ N 7 2 ≤ 4 := by rw [n2]; split <;> decide
    have n4 : N 7 4 = M 7 4 := by
      rw [e, pst_7.1]; unfold rtS rfS; rw [if_pos (by rw [e2]; exact z)]; rfl
    refine SX4_readNumber_19 ⟨by omega, by omega, fun _ => ⟨fun y => absurd y n2'.1, fun _ => ⟨?_, ?_⟩⟩, fun y => absurd y n2'.1⟩
    · unfold nmV; rw [if_neg (fun u => w u.2.1)]
    · rw [e]; unfold nmS; rw [if_pos (by rw [e2]; exact z), if_neg (by rw [e1]; exact w)]
theorem c_isTold (hx : 0 ≤ x ∧ x ≤ 9) (h : 0 ≤ M 8 7 ∧ M 8 7 < 1024) : zKi g (z1 o) mX0_isTold [zA g 8, zI x] M (fun r N => r = zb (bt (M 8 7) x) ∧ N = M) := by
  have e : (M 8 7) / (2 ^ Int.toNat x : Nat) % (1 + 1) = (M 8 7) / (2 ^ x.toNat : Nat) % 2 := rfl
  have hm := md (C := 2) (k := (M 8 7) / (2 ^ x.toNat : Nat)) (by decide)
  refine zki_of rfl (Nat.le_of_ble_eq_true rfl) (SX0_isTold_0 ?_)
  rw [e]
  exact ⟨by omega, by omega, by omega, fun z => ⟨(zb_f z).symm, rfl⟩, fun z => ⟨(zb_t z).symm, rfl⟩⟩
theorem pw9 (hx : 0 ≤ x ∧ x ≤ 9) : (1 : Int) ≤ ((2 ^ x.toNat : Nat) : Int) ∧ ((2 ^ x.toNat : Nat) : Int) ≤ 512 := by
  have h1 : 2 ^ x.toNat ≤ 2 ^ 9 := Nat.pow_le_pow_right (by decide) (by omega)
  have h2 : 0 < 2 ^ x.toNat := Nat.two_pow_pos _
  obtain ⟨p, hp⟩ : ∃ p : Nat, p = 2 ^ x.toNat := ⟨_, rfl⟩
  rw [← hp] at h1 h2 ⊢
  have h1 : p ≤ 512 := h1
  omega
theorem c_setTold (hx : 0 ≤ x ∧ x ≤ 9) (h : 0 ≤ M 8 7 ∧ M 8 7 < 1024) : zKv g (z1 o) mX0_setTold [zA g 8, zI x] M (fun N => N = zu M 8 7 (sbt (M 8 7) x)) := by
  have p := pw9 hx
  refine zkv_of rfl (Nat.le_of_ble_eq_true rfl) (SX0_setTold_0 ⟨by omega, by omega, by omega, ?_⟩)
  unfold sbt
  rw [Int.toNat_natCast]
end RD1
theorem dX4_readRule_0 : decode cX4_readRule 0 = .ok (.aload_n 0, 1) := by decide +kernel
theorem dX4_readRule_1 : decode cX4_readRule 1 = .ok (.getfield 12, 3) := by decide +kernel
theorem dX4_readRule_4 : decode cX4_readRule 4 = .ok (.getfield 138, 3) := by decide +kernel
theorem dX4_readRule_7 : decode cX4_readRule 7 = .ok (.iload_n 1, 1) := by decide +kernel
theorem dX4_readRule_8 : decode cX4_readRule 8 = .ok (.aload_n 0, 1) := by decide +kernel
theorem dX4_readRule_9 : decode cX4_readRule 9 = .ok (.getstatic 141, 3) := by decide +kernel
theorem dX4_readRule_12 : decode cX4_readRule 12 = .ok (.iload_n 1, 1) := by decide +kernel
theorem dX4_readRule_13 : decode cX4_readRule 13 = .ok (.iaload, 1) := by decide +kernel
theorem dX4_readRule_14 : decode cX4_readRule 14 = .ok (.getstatic 144, 3) := by decide +kernel
theorem dX4_readRule_17 : decode cX4_readRule 17 = .ok (.iload_n 1, 1) := by decide +kernel
theorem dX4_readRule_18 : decode cX4_readRule 18 = .ok (.iaload, 1) := by decide +kernel
theorem dX4_readRule_19 : decode cX4_readRule 19 = .ok (.invokevirtual 92, 3) := by decide +kernel
theorem dX4_readRule_22 : decode cX4_readRule 22 = .ok (.iastore, 1) := by decide +kernel
theorem dX4_readRule_23 : decode cX4_readRule 23 = .ok (.return_, 1) := by decide +kernel
set_option maxRecDepth 100000 in
theorem SX4_readRule_0 {g : zG} {o : Bool} {M : zM} {q : zM → Prop} {x1 : Int} (W : (0 ≤ x1 ∧ x1 < 4) ∧ (rdO M) ∧ (-2147483648 ≤ (zTv 0 x1.toNat) ∧ (zTv 0 x1.toNat) ≤ 2147483647) ∧ (-2147483648 ≤ (zTv 1 x1.toNat) ∧ (zTv 1 x1.toNat) ≤ 2147483647) ∧ ∀ (r5 : Int) (N7 : zM), r5 = nmV (M 4) (M 6) (zTv 0 x1.toNat) (zTv 1 x1.toNat) (gst M) → N7 = pst M (nmS (M 4) (M 5) (M 6) (zTv 0 x1.toNat) (zTv 1 x1.toNat) (gst M)) → q (zu N7 9 x1 r5)) : zT g (z1 o) mX4_readRule (zQv (z1 o) q) 0 [(0, zA g 7), (1, zI x1)] [] M := by
  refine zr_aload_n 0 dX4_readRule_0 rfl ?_
  refine zr_getr (b := 8) dX4_readRule_1 fX4_12 rfl rfl rfl (by decide) ?_
  refine zr_getr (b := 9) dX4_readRule_4 fX4_138 rfl rfl rfl (by decide) ?_
  refine zr_iload_n 1 dX4_readRule_7 rfl ?_
  refine zr_aload_n 0 dX4_readRule_8 rfl ?_
  refine zr_gets (i := 0) (nm := "RULE_LEAST") dX4_readRule_9 (by decide) (Or.inr (by decide)) ?_
  refine zr_iload_n 1 dX4_readRule_12 rfl ?_
  obtain ⟨c1, W⟩ := W
  refine zr_tald dX4_readRule_13 (by decide) c1 ?_
  refine zr_gets (i := 1) (nm := "RULE_MOST") dX4_readRule_14 (by decide) (Or.inr (by decide)) ?_
  refine zr_iload_n 1 dX4_readRule_17 rfl ?_
  refine zr_tald dX4_readRule_18 (by decide) c1 ?_
  obtain ⟨c2, W⟩ := W
  obtain ⟨c3, W⟩ := W
  obtain ⟨c4, W⟩ := W
  refine zt_callVi (As := [zI (zTv 0 x1.toNat), zI (zTv 1 x1.toNat)]) (rest := [zI x1, zA g 9]) dX4_readRule_19 kX4_readRule_92 rfl rfl rfl rfl (Nat.le_of_ble_eq_true rfl) (c_readNumber c2 c3 c4) (fun r5 N7 h6 => ?_)
  have W := W r5 N7 h6.1 h6.2
  refine zr_iast dX4_readRule_22 rfl (by decide) c1 ?_
  exact zt_ret dX4_readRule_23 rfl W
section RD1
variable {g : zG} {o : Bool} {M N : zM} {K Pl V : Int → Int} {s s' : Rs} {lo hi x c wh t : Int} {a : Nat}
theorem c_readRule (h : rdO M) (hx : 0 ≤ x ∧ x < 4) : zKv g (z1 o) mX4_readRule [zA g 7, zI x] M (fun N => N = numF (zTv 0 x.toNat) (zTv 1 x.toNat) 9 x M) := by
  have hi : x = 0 ∨ x = 1 ∨ x = 2 ∨ x = 3 := by omega
  refine zkv_of rfl (Nat.le_of_ble_eq_true rfl) (SX4_readRule_0 ⟨hx, h, ?_, ?_, fun r N e1 e2 => by rw [e1, e2]; rfl⟩)
  · rcases hi with rfl | rfl | rfl | rfl <;> decide
  · rcases hi with rfl | rfl | rfl | rfl <;> decide
theorem c_readRule0 (h : rdO M) : zKv g (z1 o) mX4_readRule [zA g 7, zI 0] M (fun N => N = numF 1 6 9 0 M) := c_readRule h (by decide)
theorem c_readRule1 (h : rdO M) : zKv g (z1 o) mX4_readRule [zA g 7, zI 1] M (fun N => N = numF 1 9 9 1 M) := c_readRule h (by decide)
theorem c_readRule2 (h : rdO M) : zKv g (z1 o) mX4_readRule [zA g 7, zI 2] M (fun N => N = numF 0 16 9 2 M) := c_readRule h (by decide)
theorem c_readRule3 (h : rdO M) : zKv g (z1 o) mX4_readRule [zA g 7, zI 3] M (fun N => N = numF 0 16 9 3 M) := c_readRule h (by decide)
end RD1
theorem dX4_readSize_0 : decode cX4_readSize 0 = .ok (.aload_n 0, 1) := by decide +kernel
theorem dX4_readSize_1 : decode cX4_readSize 1 = .ok (.getfield 12, 3) := by decide +kernel
theorem dX4_readSize_4 : decode cX4_readSize 4 = .ok (.aload_n 0, 1) := by decide +kernel
theorem dX4_readSize_5 : decode cX4_readSize 5 = .ok (.iconst 3, 1) := by decide +kernel
theorem dX4_readSize_6 : decode cX4_readSize 6 = .ok (.bipush 12, 2) := by decide +kernel
theorem dX4_readSize_8 : decode cX4_readSize 8 = .ok (.invokevirtual 92, 3) := by decide +kernel
theorem dX4_readSize_11 : decode cX4_readSize 11 = .ok (.putfield 117, 3) := by decide +kernel
theorem dX4_readSize_14 : decode cX4_readSize 14 = .ok (.aload_n 0, 1) := by decide +kernel
theorem dX4_readSize_15 : decode cX4_readSize 15 = .ok (.aload_n 0, 1) := by decide +kernel
theorem dX4_readSize_16 : decode cX4_readSize 16 = .ok (.invokevirtual 40, 3) := by decide +kernel
theorem dX4_readSize_19 : decode cX4_readSize 19 = .ok (.iconst 1, 1) := by decide +kernel
theorem dX4_readSize_20 : decode cX4_readSize 20 = .ok (.if_icmp .ne 16, 3) := by decide +kernel
theorem dX4_readSize_23 : decode cX4_readSize 23 = .ok (.aload_n 0, 1) := by decide +kernel
theorem dX4_readSize_24 : decode cX4_readSize 24 = .ok (.invokevirtual 73, 3) := by decide +kernel
theorem dX4_readSize_27 : decode cX4_readSize 27 = .ok (.bipush 14, 2) := by decide +kernel
theorem dX4_readSize_29 : decode cX4_readSize 29 = .ok (.if_icmp .ne 7, 3) := by decide +kernel
theorem dX4_readSize_32 : decode cX4_readSize 32 = .ok (.iconst 1, 1) := by decide +kernel
theorem dX4_readSize_33 : decode cX4_readSize 33 = .ok (.goto 4, 3) := by decide +kernel
theorem dX4_readSize_36 : decode cX4_readSize 36 = .ok (.iconst 0, 1) := by decide +kernel
theorem dX4_readSize_37 : decode cX4_readSize 37 = .ok (.invokevirtual 55, 3) := by decide +kernel
theorem dX4_readSize_40 : decode cX4_readSize 40 = .ok (.aload_n 0, 1) := by decide +kernel
theorem dX4_readSize_41 : decode cX4_readSize 41 = .ok (.getfield 12, 3) := by decide +kernel
theorem dX4_readSize_44 : decode cX4_readSize 44 = .ok (.aload_n 0, 1) := by decide +kernel
theorem dX4_readSize_45 : decode cX4_readSize 45 = .ok (.iconst 1, 1) := by decide +kernel
theorem dX4_readSize_46 : decode cX4_readSize 46 = .ok (.bipush 8, 2) := by decide +kernel
theorem dX4_readSize_48 : decode cX4_readSize 48 = .ok (.invokevirtual 92, 3) := by decide +kernel
theorem dX4_readSize_51 : decode cX4_readSize 51 = .ok (.putfield 120, 3) := by decide +kernel
theorem dX4_readSize_54 : decode cX4_readSize 54 = .ok (.return_, 1) := by decide +kernel
set_option maxRecDepth 100000 in
theorem SX4_readSize_0 {g : zG} {o : Bool} {M : zM} {q : zM → Prop} (W : (rdO M) ∧ ∀ (r2 : Int) (N4 : zM), r2 = nmV (M 4) (M 6) 3 12 (gst M) → N4 = pst M (nmS (M 4) (M 5) (M 6) 3 12 (gst M)) → (0 ≤ (zu N4 8 0 r2) 7 4 ∧ (zu N4 8 0 r2) 7 4 < 901) ∧ (-2147483648 ≤ ((zu N4 8 0 r2) 4 ((zu N4 8 0 r2) 7 4)) ∧ ((zu N4 8 0 r2) 4 ((zu N4 8 0 r2) 7 4)) ≤ 2147483647) ∧ ((((zu N4 8 0 r2) 4 ((zu N4 8 0 r2) 7 4)) ≠ 1) → (rdO (zu N4 8 0 r2)) ∧ ∀ N13 : zM, N13 = pst (zu N4 8 0 r2) (xpS ((zu N4 8 0 r2) 4) ((zu N4 8 0 r2) 5) 0 (gst (zu N4 8 0 r2))) → (rdO N13) ∧ ∀ (r15 : Int) (N17 : zM), r15 = nmV (N13 4) (N13 6) 1 8 (gst N13) → N17 = pst N13 (nmS (N13 4) (N13 5) (N13 6) 1 8 (gst N13)) → q (zu N17 8 1 r15)) ∧ ((((zu N4 8 0 r2) 4 ((zu N4 8 0 r2) 7 4)) = 1) → (-2147483648 ≤ ((zu N4 8 0 r2) 6 ((zu N4 8 0 r2) 7 4)) ∧ ((zu N4 8 0 r2) 6 ((zu N4 8 0 r2) 7 4)) ≤ 2147483647) ∧ ((((zu N4 8 0 r2) 6 ((zu N4 8 0 r2) 7 4)) ≠ 14) → (rdO (zu N4 8 0 r2)) ∧ ∀ N25 : zM, N25 = pst (zu N4 8 0 r2) (xpS ((zu N4 8 0 r2) 4) ((zu N4 8 0 r2) 5) 0 (gst (zu N4 8 0 r2))) → (rdO N25) ∧ ∀ (r27 : Int) (N29 : zM), r27 = nmV (N25 4) (N25 6) 1 8 (gst N25) → N29 = pst N25 (nmS (N25 4) (N25 5) (N25 6) 1 8 (gst N25)) → q (zu N29 8 1 r27)) ∧ ((((zu N4 8 0 r2) 6 ((zu N4 8 0 r2) 7 4)) = 14) → (rdO (zu N4 8 0 r2)) ∧ ∀ N33 : zM, N33 = pst (zu N4 8 0 r2) (xpS ((zu N4 8 0 r2) 4) ((zu N4 8 0 r2) 5) 1 (gst (zu N4 8 0 r2))) → (rdO N33) ∧ ∀ (r35 : Int) (N37 : zM), r35 = nmV (N33 4) (N33 6) 1 8 (gst N33) → N37 = pst N33 (nmS (N33 4) (N33 5) (N33 6) 1 8 (gst N33)) → q (zu N37 8 1 r35)))) : zT g (z1 o) mX4_readSize (zQv (z1 o) q) 0 [(0, zA g 7)] [] M := by
  refine zr_aload_n 0 dX4_readSize_0 rfl ?_
  refine zr_getr (b := 8) dX4_readSize_1 fX4_12 rfl rfl rfl (by decide) ?_
  refine zr_aload_n 0 dX4_readSize_4 rfl ?_
  refine zr_iconst dX4_readSize_5 ?_
  refine zr_bipush dX4_readSize_6 (by decide) ?_
  obtain ⟨c1, W⟩ := W
  refine zt_callVi (As := [zI 3, zI 12]) (rest := [zA g 8]) dX4_readSize_8 kX4_readSize_92 rfl rfl rfl rfl (Nat.le_of_ble_eq_true rfl) (c_readNumber c1 ⟨by decide, by decide⟩ ⟨by decide, by decide⟩) (fun r2 N4 h3 => ?_)
  have W := W r2 N4 h3.1 h3.2
  refine zt_puti 0 rfl dX4_readSize_11 fX4_117 lcX0 ltX0_0 rfl rfl ?_
  refine zr_aload_n 0 dX4_readSize_14 rfl ?_
  refine zr_aload_n 0 dX4_readSize_15 rfl ?_
  obtain ⟨c5, W⟩ := W
  refine zt_callVi (As := []) (rest := [zA g 7]) dX4_readSize_16 kX4_readSize_40 rfl rfl rfl rfl (Nat.le_of_ble_eq_true rfl) (c_kind c5) (fun r6 N8 h7 => ?_)
  rw [h7.1, h7.2]
  refine zr_iconst dX4_readSize_19 ?_
  obtain ⟨c9, W⟩ := W
  refine zr_icmp_ne (tgt := 36) dX4_readSize_20 (by decide) c9 ⟨by decide, by decide⟩ (fun h => ?_) (fun h => ?_)
  · have W := W.1 h
    refine zr_iconst dX4_readSize_36 ?_
    obtain ⟨c10, W⟩ := W
    refine zt_callVv (As := [zI 0]) (rest := []) dX4_readSize_37 kX4_readSize_55 rfl rfl rfl rfl (Nat.le_of_ble_eq_true rfl) (c_expect c10 (by decide)) (fun N13 h12 => ?_)
    have W := W N13 h12
    refine zr_aload_n 0 dX4_readSize_40 rfl ?_
    refine zr_getr (b := 8) dX4_readSize_41 fX4_12 rfl rfl rfl (by decide) ?_
    refine zr_aload_n 0 dX4_readSize_44 rfl ?_
    refine zr_iconst dX4_readSize_45 ?_
    refine zr_bipush dX4_readSize_46 (by decide) ?_
    obtain ⟨c14, W⟩ := W
    refine zt_callVi (As := [zI 1, zI 8]) (rest := [zA g 8]) dX4_readSize_48 kX4_readSize_92 rfl rfl rfl rfl (Nat.le_of_ble_eq_true rfl) (c_readNumber c14 ⟨by decide, by decide⟩ ⟨by decide, by decide⟩) (fun r15 N17 h16 => ?_)
    have W := W r15 N17 h16.1 h16.2
    refine zt_puti 1 rfl dX4_readSize_51 fX4_120 lcX0 ltX0_1 rfl rfl ?_
    exact zt_ret dX4_readSize_54 rfl W
  · have W := W.2 h
    refine zr_aload_n 0 dX4_readSize_23 rfl ?_
    refine zt_callVi (As := []) (rest := [zA g 7]) dX4_readSize_24 kX4_readSize_73 rfl rfl rfl rfl (Nat.le_of_ble_eq_true rfl) (c_value c5) (fun r18 N20 h19 => ?_)
    rw [h19.1, h19.2]
    refine zr_bipush dX4_readSize_27 (by decide) ?_
    obtain ⟨c21, W⟩ := W
    refine zr_icmp_ne (tgt := 36) dX4_readSize_29 (by decide) c21 ⟨by decide, by decide⟩ (fun h => ?_) (fun h => ?_)
    · have W := W.1 h
      refine zr_iconst dX4_readSize_36 ?_
      obtain ⟨c22, W⟩ := W
      refine zt_callVv (As := [zI 0]) (rest := []) dX4_readSize_37 kX4_readSize_55 rfl rfl rfl rfl (Nat.le_of_ble_eq_true rfl) (c_expect c22 (by decide)) (fun N25 h24 => ?_)
      have W := W N25 h24
      refine zr_aload_n 0 dX4_readSize_40 rfl ?_
      refine zr_getr (b := 8) dX4_readSize_41 fX4_12 rfl rfl rfl (by decide) ?_
      refine zr_aload_n 0 dX4_readSize_44 rfl ?_
      refine zr_iconst dX4_readSize_45 ?_
      refine zr_bipush dX4_readSize_46 (by decide) ?_
      obtain ⟨c26, W⟩ := W
      refine zt_callVi (As := [zI 1, zI 8]) (rest := [zA g 8]) dX4_readSize_48 kX4_readSize_92 rfl rfl rfl rfl (Nat.le_of_ble_eq_true rfl) (c_readNumber c26 ⟨by decide, by decide⟩ ⟨by decide, by decide⟩) (fun r27 N29 h28 => ?_)
      have W := W r27 N29 h28.1 h28.2
      refine zt_puti 1 rfl dX4_readSize_51 fX4_120 lcX0 ltX0_1 rfl rfl ?_
      exact zt_ret dX4_readSize_54 rfl W
    · have W := W.2 h
      refine zr_iconst dX4_readSize_32 ?_
      refine zr_goto (tgt := 37) dX4_readSize_33 (by decide) ?_
      obtain ⟨c30, W⟩ := W
      refine zt_callVv (As := [zI 1]) (rest := []) dX4_readSize_37 kX4_readSize_55 rfl rfl rfl rfl (Nat.le_of_ble_eq_true rfl) (c_expect c30 (by decide)) (fun N33 h32 => ?_)
      have W := W N33 h32
      refine zr_aload_n 0 dX4_readSize_40 rfl ?_
      refine zr_getr (b := 8) dX4_readSize_41 fX4_12 rfl rfl rfl (by decide) ?_
      refine zr_aload_n 0 dX4_readSize_44 rfl ?_
      refine zr_iconst dX4_readSize_45 ?_
      refine zr_bipush dX4_readSize_46 (by decide) ?_
      obtain ⟨c34, W⟩ := W
      refine zt_callVi (As := [zI 1, zI 8]) (rest := [zA g 8]) dX4_readSize_48 kX4_readSize_92 rfl rfl rfl rfl (Nat.le_of_ble_eq_true rfl) (c_readNumber c34 ⟨by decide, by decide⟩ ⟨by decide, by decide⟩) (fun r35 N37 h36 => ?_)
      have W := W r35 N37 h36.1 h36.2
      refine zt_puti 1 rfl dX4_readSize_51 fX4_120 lcX0 ltX0_1 rfl rfl ?_
      exact zt_ret dX4_readSize_54 rfl W
theorem dX4_readHeap_0 : decode cX4_readHeap 0 = .ok (.aload_n 0, 1) := by decide +kernel
theorem dX4_readHeap_1 : decode cX4_readHeap 1 = .ok (.iconst 0, 1) := by decide +kernel
theorem dX4_readHeap_2 : decode cX4_readHeap 2 = .ok (.aload_n 0, 1) := by decide +kernel
theorem dX4_readHeap_3 : decode cX4_readHeap 3 = .ok (.getfield 12, 3) := by decide +kernel
theorem dX4_readHeap_6 : decode cX4_readHeap 6 = .ok (.getfield 117, 3) := by decide +kernel
theorem dX4_readHeap_9 : decode cX4_readHeap 9 = .ok (.iconst 1, 1) := by decide +kernel
theorem dX4_readHeap_10 : decode cX4_readHeap 10 = .ok (.isub, 1) := by decide +kernel
theorem dX4_readHeap_11 : decode cX4_readHeap 11 = .ok (.invokevirtual 92, 3) := by decide +kernel
theorem dX4_readHeap_14 : decode cX4_readHeap 14 = .ok (.istore_n 1, 1) := by decide +kernel
theorem dX4_readHeap_15 : decode cX4_readHeap 15 = .ok (.aload_n 0, 1) := by decide +kernel
theorem dX4_readHeap_16 : decode cX4_readHeap 16 = .ok (.iconst 0, 1) := by decide +kernel
theorem dX4_readHeap_17 : decode cX4_readHeap 17 = .ok (.aload_n 0, 1) := by decide +kernel
theorem dX4_readHeap_18 : decode cX4_readHeap 18 = .ok (.getfield 12, 3) := by decide +kernel
theorem dX4_readHeap_21 : decode cX4_readHeap 21 = .ok (.getfield 120, 3) := by decide +kernel
theorem dX4_readHeap_24 : decode cX4_readHeap 24 = .ok (.iconst 1, 1) := by decide +kernel
theorem dX4_readHeap_25 : decode cX4_readHeap 25 = .ok (.isub, 1) := by decide +kernel
theorem dX4_readHeap_26 : decode cX4_readHeap 26 = .ok (.invokevirtual 92, 3) := by decide +kernel
theorem dX4_readHeap_29 : decode cX4_readHeap 29 = .ok (.istore_n 2, 1) := by decide +kernel
theorem dX4_readHeap_30 : decode cX4_readHeap 30 = .ok (.aload_n 0, 1) := by decide +kernel
theorem dX4_readHeap_31 : decode cX4_readHeap 31 = .ok (.iconst 1, 1) := by decide +kernel
theorem dX4_readHeap_32 : decode cX4_readHeap 32 = .ok (.bipush 50, 2) := by decide +kernel
theorem dX4_readHeap_34 : decode cX4_readHeap 34 = .ok (.invokevirtual 92, 3) := by decide +kernel
theorem dX4_readHeap_37 : decode cX4_readHeap 37 = .ok (.istore_n 3, 1) := by decide +kernel
theorem dX4_readHeap_38 : decode cX4_readHeap 38 = .ok (.aload_n 0, 1) := by decide +kernel
theorem dX4_readHeap_39 : decode cX4_readHeap 39 = .ok (.getfield 18, 3) := by decide +kernel
theorem dX4_readHeap_42 : decode cX4_readHeap 42 = .ok (.ifCond .ne 39, 3) := by decide +kernel
theorem dX4_readHeap_45 : decode cX4_readHeap 45 = .ok (.aload_n 0, 1) := by decide +kernel
theorem dX4_readHeap_46 : decode cX4_readHeap 46 = .ok (.getfield 12, 3) := by decide +kernel
theorem dX4_readHeap_49 : decode cX4_readHeap 49 = .ok (.getfield 123, 3) := by decide +kernel
theorem dX4_readHeap_52 : decode cX4_readHeap 52 = .ok (.iload_n 2, 1) := by decide +kernel
theorem dX4_readHeap_53 : decode cX4_readHeap 53 = .ok (.aload_n 0, 1) := by decide +kernel
theorem dX4_readHeap_54 : decode cX4_readHeap 54 = .ok (.getfield 12, 3) := by decide +kernel
theorem dX4_readHeap_57 : decode cX4_readHeap 57 = .ok (.getfield 117, 3) := by decide +kernel
theorem dX4_readHeap_60 : decode cX4_readHeap 60 = .ok (.imul, 1) := by decide +kernel
theorem dX4_readHeap_61 : decode cX4_readHeap 61 = .ok (.iload_n 1, 1) := by decide +kernel
theorem dX4_readHeap_62 : decode cX4_readHeap 62 = .ok (.iadd, 1) := by decide +kernel
theorem dX4_readHeap_63 : decode cX4_readHeap 63 = .ok (.dup2, 1) := by decide +kernel
theorem dX4_readHeap_64 : decode cX4_readHeap 64 = .ok (.iaload, 1) := by decide +kernel
theorem dX4_readHeap_65 : decode cX4_readHeap 65 = .ok (.iload_n 3, 1) := by decide +kernel
theorem dX4_readHeap_66 : decode cX4_readHeap 66 = .ok (.iadd, 1) := by decide +kernel
theorem dX4_readHeap_67 : decode cX4_readHeap 67 = .ok (.iastore, 1) := by decide +kernel
theorem dX4_readHeap_68 : decode cX4_readHeap 68 = .ok (.aload_n 0, 1) := by decide +kernel
theorem dX4_readHeap_69 : decode cX4_readHeap 69 = .ok (.getfield 12, 3) := by decide +kernel
theorem dX4_readHeap_72 : decode cX4_readHeap 72 = .ok (.dup, 1) := by decide +kernel
theorem dX4_readHeap_73 : decode cX4_readHeap 73 = .ok (.getfield 79, 3) := by decide +kernel
theorem dX4_readHeap_76 : decode cX4_readHeap 76 = .ok (.iconst 1, 1) := by decide +kernel
theorem dX4_readHeap_77 : decode cX4_readHeap 77 = .ok (.iadd, 1) := by decide +kernel
theorem dX4_readHeap_78 : decode cX4_readHeap 78 = .ok (.putfield 79, 3) := by decide +kernel
theorem dX4_readHeap_81 : decode cX4_readHeap 81 = .ok (.return_, 1) := by decide +kernel
set_option maxRecDepth 100000 in
theorem SX4_readHeap_0 {g : zG} {o : Bool} {M : zM} {q : zM → Prop} (W : (rdO M) ∧ (-2147483648 ≤ ((M 8 0) - 1) ∧ ((M 8 0) - 1) ≤ 2147483647) ∧ ∀ (r3 : Int) (N5 : zM), r3 = nmV (M 4) (M 6) 0 ((M 8 0) - 1) (gst M) → N5 = pst M (nmS (M 4) (M 5) (M 6) 0 ((M 8 0) - 1) (gst M)) → (rdO N5) ∧ (-2147483648 ≤ ((N5 8 1) - 1) ∧ ((N5 8 1) - 1) ≤ 2147483647) ∧ ∀ (r8 : Int) (N10 : zM), r8 = nmV (N5 4) (N5 6) 0 ((N5 8 1) - 1) (gst N5) → N10 = pst N5 (nmS (N5 4) (N5 5) (N5 6) 0 ((N5 8 1) - 1) (gst N5)) → (rdO N10) ∧ ∀ (r12 : Int) (N14 : zM), r12 = nmV (N10 4) (N10 6) 1 50 (gst N10) → N14 = pst N10 (nmS (N10 4) (N10 5) (N10 6) 1 50 (gst N10)) → (-2147483648 ≤ (N14 7 2) ∧ (N14 7 2) ≤ 2147483647) ∧ (((N14 7 2) ≠ 0) → q N14) ∧ (((N14 7 2) = 0) → (0 ≤ ((r8 * (N14 8 0)) + r3) ∧ ((r8 * (N14 8 0)) + r3) < 96) ∧ ∀ N17 : zM, N17 = zu N14 10 ((r8 * (N14 8 0)) + r3) ((N14 10 ((r8 * (N14 8 0)) + r3)) + r12) → q (zu N17 8 5 ((N17 8 5) + 1)))) : zT g (z1 o) mX4_readHeap (zQv (z1 o) q) 0 [(0, zA g 7)] [] M := by
  refine zr_aload_n 0 dX4_readHeap_0 rfl ?_
  refine zr_iconst dX4_readHeap_1 ?_
  refine zr_aload_n 0 dX4_readHeap_2 rfl ?_
  refine zr_getr (b := 8) dX4_readHeap_3 fX4_12 rfl rfl rfl (by decide) ?_
  refine zt_geti 0 rfl dX4_readHeap_6 fX4_117 rfl (by decide) ?_
  refine zr_iconst dX4_readHeap_9 ?_
  refine zr_isub dX4_readHeap_10 ?_
  obtain ⟨c1, W⟩ := W
  obtain ⟨c2, W⟩ := W
  refine zt_callVi (As := [zI 0, zI ((M 8 0) - 1)]) (rest := []) dX4_readHeap_11 kX4_readHeap_92 rfl rfl rfl rfl (Nat.le_of_ble_eq_true rfl) (c_readNumber c1 ⟨by decide, by decide⟩ c2) (fun r3 N5 h4 => ?_)
  have W := W r3 N5 h4.1 h4.2
  refine zr_istore_n (l' := [(0, zA g 7), (1, zI r3)]) dX4_readHeap_14 (by decide) [1, 0] rfl ?_
  refine zr_aload_n 0 dX4_readHeap_15 rfl ?_
  refine zr_iconst dX4_readHeap_16 ?_
  refine zr_aload_n 0 dX4_readHeap_17 rfl ?_
  refine zr_getr (b := 8) dX4_readHeap_18 fX4_12 rfl rfl rfl (by decide) ?_
  refine zt_geti 1 rfl dX4_readHeap_21 fX4_120 rfl (by decide) ?_
  refine zr_iconst dX4_readHeap_24 ?_
  refine zr_isub dX4_readHeap_25 ?_
  obtain ⟨c6, W⟩ := W
  obtain ⟨c7, W⟩ := W
  refine zt_callVi (As := [zI 0, zI ((N5 8 1) - 1)]) (rest := []) dX4_readHeap_26 kX4_readHeap_92 rfl rfl rfl rfl (Nat.le_of_ble_eq_true rfl) (c_readNumber c6 ⟨by decide, by decide⟩ c7) (fun r8 N10 h9 => ?_)
  have W := W r8 N10 h9.1 h9.2
  refine zr_istore_n (l' := [(0, zA g 7), (1, zI r3), (2, zI r8)]) dX4_readHeap_29 (by decide) [1, 2, 0] rfl ?_
  refine zr_aload_n 0 dX4_readHeap_30 rfl ?_
  refine zr_iconst dX4_readHeap_31 ?_
  refine zr_bipush dX4_readHeap_32 (by decide) ?_
  obtain ⟨c11, W⟩ := W
  refine zt_callVi (As := [zI 1, zI 50]) (rest := []) dX4_readHeap_34 kX4_readHeap_92 rfl rfl rfl rfl (Nat.le_of_ble_eq_true rfl) (c_readNumber c11 ⟨by decide, by decide⟩ ⟨by decide, by decide⟩) (fun r12 N14 h13 => ?_)
  have W := W r12 N14 h13.1 h13.2
  refine zr_istore_n (l' := [(0, zA g 7), (1, zI r3), (2, zI r8), (3, zI r12)]) dX4_readHeap_37 (by decide) [1, 2, 3, 0] rfl ?_
  refine zr_aload_n 0 dX4_readHeap_38 rfl ?_
  refine zt_geti 2 rfl dX4_readHeap_39 fX4_18 rfl (by decide) ?_
  obtain ⟨c15, W⟩ := W
  refine zr_if_ne (tgt := 81) dX4_readHeap_42 (by decide) c15 (fun h => ?_) (fun h => ?_)
  · have W := W.1 h
    exact zt_ret dX4_readHeap_81 rfl W
  · have W := W.2 h
    refine zr_aload_n 0 dX4_readHeap_45 rfl ?_
    refine zr_getr (b := 8) dX4_readHeap_46 fX4_12 rfl rfl rfl (by decide) ?_
    refine zr_getr (b := 10) dX4_readHeap_49 fX4_123 rfl rfl rfl (by decide) ?_
    refine zr_iload_n 2 dX4_readHeap_52 rfl ?_
    refine zr_aload_n 0 dX4_readHeap_53 rfl ?_
    refine zr_getr (b := 8) dX4_readHeap_54 fX4_12 rfl rfl rfl (by decide) ?_
    refine zt_geti 0 rfl dX4_readHeap_57 fX4_117 rfl (by decide) ?_
    refine zr_imul dX4_readHeap_60 ?_
    refine zr_iload_n 1 dX4_readHeap_61 rfl ?_
    refine zr_iadd dX4_readHeap_62 ?_
    refine zr_dup2 dX4_readHeap_63 rfl rfl ?_
    obtain ⟨c16, W⟩ := W
    refine zr_iald dX4_readHeap_64 rfl (by decide) c16 ?_
    refine zr_iload_n 3 dX4_readHeap_65 rfl ?_
    refine zr_iadd dX4_readHeap_66 ?_
    refine zr_iast dX4_readHeap_67 rfl (by decide) c16 ?_
    refine zr_aload_n 0 dX4_readHeap_68 rfl ?_
    refine zr_getr (b := 8) dX4_readHeap_69 fX4_12 rfl rfl rfl (by decide) ?_
    refine zr_dup dX4_readHeap_72 rfl ?_
    refine zt_geti 5 rfl dX4_readHeap_73 fX4_79 rfl (by decide) ?_
    refine zr_iconst dX4_readHeap_76 ?_
    refine zr_iadd dX4_readHeap_77 ?_
    obtain ⟨N17, e18⟩ : ∃ N : zM, N = zu N14 10 ((r8 * (N14 8 0)) + r3) ((N14 10 ((r8 * (N14 8 0)) + r3)) + r12) := ⟨_, rfl⟩
    rw [← e18]
    have W := W N17 e18
    refine zt_puti 5 rfl dX4_readHeap_78 fX4_79 lcX0 ltX0_5 rfl rfl ?_
    exact zt_ret dX4_readHeap_81 rfl W
theorem dX4_readGrass_0 : decode cX4_readGrass 0 = .ok (.aload_n 0, 1) := by decide +kernel
theorem dX4_readGrass_1 : decode cX4_readGrass 1 = .ok (.iconst 0, 1) := by decide +kernel
theorem dX4_readGrass_2 : decode cX4_readGrass 2 = .ok (.aload_n 0, 1) := by decide +kernel
theorem dX4_readGrass_3 : decode cX4_readGrass 3 = .ok (.getfield 12, 3) := by decide +kernel
theorem dX4_readGrass_6 : decode cX4_readGrass 6 = .ok (.getfield 117, 3) := by decide +kernel
theorem dX4_readGrass_9 : decode cX4_readGrass 9 = .ok (.iconst 1, 1) := by decide +kernel
theorem dX4_readGrass_10 : decode cX4_readGrass 10 = .ok (.isub, 1) := by decide +kernel
theorem dX4_readGrass_11 : decode cX4_readGrass 11 = .ok (.invokevirtual 92, 3) := by decide +kernel
theorem dX4_readGrass_14 : decode cX4_readGrass 14 = .ok (.istore_n 1, 1) := by decide +kernel
theorem dX4_readGrass_15 : decode cX4_readGrass 15 = .ok (.aload_n 0, 1) := by decide +kernel
theorem dX4_readGrass_16 : decode cX4_readGrass 16 = .ok (.getfield 25, 3) := by decide +kernel
theorem dX4_readGrass_19 : decode cX4_readGrass 19 = .ok (.istore_n 2, 1) := by decide +kernel
theorem dX4_readGrass_20 : decode cX4_readGrass 20 = .ok (.aload_n 0, 1) := by decide +kernel
theorem dX4_readGrass_21 : decode cX4_readGrass 21 = .ok (.iconst 0, 1) := by decide +kernel
theorem dX4_readGrass_22 : decode cX4_readGrass 22 = .ok (.aload_n 0, 1) := by decide +kernel
theorem dX4_readGrass_23 : decode cX4_readGrass 23 = .ok (.getfield 12, 3) := by decide +kernel
theorem dX4_readGrass_26 : decode cX4_readGrass 26 = .ok (.getfield 120, 3) := by decide +kernel
theorem dX4_readGrass_29 : decode cX4_readGrass 29 = .ok (.iconst 1, 1) := by decide +kernel
theorem dX4_readGrass_30 : decode cX4_readGrass 30 = .ok (.isub, 1) := by decide +kernel
theorem dX4_readGrass_31 : decode cX4_readGrass 31 = .ok (.invokevirtual 92, 3) := by decide +kernel
theorem dX4_readGrass_34 : decode cX4_readGrass 34 = .ok (.istore_n 3, 1) := by decide +kernel
theorem dX4_readGrass_35 : decode cX4_readGrass 35 = .ok (.aload_n 0, 1) := by decide +kernel
theorem dX4_readGrass_36 : decode cX4_readGrass 36 = .ok (.getfield 18, 3) := by decide +kernel
theorem dX4_readGrass_39 : decode cX4_readGrass 39 = .ok (.ifCond .eq 4, 3) := by decide +kernel
theorem dX4_readGrass_42 : decode cX4_readGrass 42 = .ok (.return_, 1) := by decide +kernel
theorem dX4_readGrass_43 : decode cX4_readGrass 43 = .ok (.iload_n 3, 1) := by decide +kernel
theorem dX4_readGrass_44 : decode cX4_readGrass 44 = .ok (.aload_n 0, 1) := by decide +kernel
theorem dX4_readGrass_45 : decode cX4_readGrass 45 = .ok (.getfield 12, 3) := by decide +kernel
theorem dX4_readGrass_48 : decode cX4_readGrass 48 = .ok (.getfield 117, 3) := by decide +kernel
theorem dX4_readGrass_51 : decode cX4_readGrass 51 = .ok (.imul, 1) := by decide +kernel
theorem dX4_readGrass_52 : decode cX4_readGrass 52 = .ok (.iload_n 1, 1) := by decide +kernel
theorem dX4_readGrass_53 : decode cX4_readGrass 53 = .ok (.iadd, 1) := by decide +kernel
theorem dX4_readGrass_54 : decode cX4_readGrass 54 = .ok (.istore 4, 2) := by decide +kernel
theorem dX4_readGrass_56 : decode cX4_readGrass 56 = .ok (.aload_n 0, 1) := by decide +kernel
theorem dX4_readGrass_57 : decode cX4_readGrass 57 = .ok (.getfield 12, 3) := by decide +kernel
theorem dX4_readGrass_60 : decode cX4_readGrass 60 = .ok (.getfield 126, 3) := by decide +kernel
theorem dX4_readGrass_63 : decode cX4_readGrass 63 = .ok (.iload 4, 2) := by decide +kernel
theorem dX4_readGrass_65 : decode cX4_readGrass 65 = .ok (.iaload, 1) := by decide +kernel
theorem dX4_readGrass_66 : decode cX4_readGrass 66 = .ok (.iconst 1, 1) := by decide +kernel
theorem dX4_readGrass_67 : decode cX4_readGrass 67 = .ok (.if_icmp .ne 9, 3) := by decide +kernel
theorem dX4_readGrass_70 : decode cX4_readGrass 70 = .ok (.aload_n 0, 1) := by decide +kernel
theorem dX4_readGrass_71 : decode cX4_readGrass 71 = .ok (.iconst 3, 1) := by decide +kernel
theorem dX4_readGrass_72 : decode cX4_readGrass 72 = .ok (.iload_n 2, 1) := by decide +kernel
theorem dX4_readGrass_73 : decode cX4_readGrass 73 = .ok (.invokevirtual 69, 3) := by decide +kernel
theorem dX4_readGrass_76 : decode cX4_readGrass 76 = .ok (.aload_n 0, 1) := by decide +kernel
theorem dX4_readGrass_77 : decode cX4_readGrass 77 = .ok (.getfield 12, 3) := by decide +kernel
theorem dX4_readGrass_80 : decode cX4_readGrass 80 = .ok (.getfield 126, 3) := by decide +kernel
theorem dX4_readGrass_83 : decode cX4_readGrass 83 = .ok (.iload 4, 2) := by decide +kernel
theorem dX4_readGrass_85 : decode cX4_readGrass 85 = .ok (.iconst 1, 1) := by decide +kernel
theorem dX4_readGrass_86 : decode cX4_readGrass 86 = .ok (.iastore, 1) := by decide +kernel
theorem dX4_readGrass_87 : decode cX4_readGrass 87 = .ok (.return_, 1) := by decide +kernel
set_option maxRecDepth 100000 in
theorem SX4_readGrass_0 {g : zG} {o : Bool} {M : zM} {q : zM → Prop} (W : (rdO M) ∧ (-2147483648 ≤ ((M 8 0) - 1) ∧ ((M 8 0) - 1) ≤ 2147483647) ∧ ∀ (r3 : Int) (N5 : zM), r3 = nmV (M 4) (M 6) 0 ((M 8 0) - 1) (gst M) → N5 = pst M (nmS (M 4) (M 5) (M 6) 0 ((M 8 0) - 1) (gst M)) → (rdO N5) ∧ (-2147483648 ≤ ((N5 8 1) - 1) ∧ ((N5 8 1) - 1) ≤ 2147483647) ∧ ∀ (r8 : Int) (N10 : zM), r8 = nmV (N5 4) (N5 6) 0 ((N5 8 1) - 1) (gst N5) → N10 = pst N5 (nmS (N5 4) (N5 5) (N5 6) 0 ((N5 8 1) - 1) (gst N5)) → (-2147483648 ≤ (N10 7 2) ∧ (N10 7 2) ≤ 2147483647) ∧ (((N10 7 2) = 0) → (0 ≤ ((r8 * (N10 8 0)) + r3) ∧ ((r8 * (N10 8 0)) + r3) < 96) ∧ (-2147483648 ≤ (N10 11 ((r8 * (N10 8 0)) + r3)) ∧ (N10 11 ((r8 * (N10 8 0)) + r3)) ≤ 2147483647) ∧ (((N10 11 ((r8 * (N10 8 0)) + r3)) ≠ 1) → q (zu N10 11 ((r8 * (N10 8 0)) + r3) 1)) ∧ (((N10 11 ((r8 * (N10 8 0)) + r3)) = 1) → (rdO N10) ∧ (0 ≤ (N5 7 4) ∧ (N5 7 4) < 901) ∧ ∀ N18 : zM, N18 = pst N10 (rfS (N10 5) 3 (N5 7 4) (gst N10)) → q (zu N18 11 ((r8 * (N10 8 0)) + r3) 1))) ∧ ((¬ ((N10 7 2) = 0)) → q N10)) : zT g (z1 o) mX4_readGrass (zQv (z1 o) q) 0 [(0, zA g 7)] [] M := by
  refine zr_aload_n 0 dX4_readGrass_0 rfl ?_
  refine zr_iconst dX4_readGrass_1 ?_
  refine zr_aload_n 0 dX4_readGrass_2 rfl ?_
  refine zr_getr (b := 8) dX4_readGrass_3 fX4_12 rfl rfl rfl (by decide) ?_
  refine zt_geti 0 rfl dX4_readGrass_6 fX4_117 rfl (by decide) ?_
  refine zr_iconst dX4_readGrass_9 ?_
  refine zr_isub dX4_readGrass_10 ?_
  obtain ⟨c1, W⟩ := W
  obtain ⟨c2, W⟩ := W
  refine zt_callVi (As := [zI 0, zI ((M 8 0) - 1)]) (rest := []) dX4_readGrass_11 kX4_readGrass_92 rfl rfl rfl rfl (Nat.le_of_ble_eq_true rfl) (c_readNumber c1 ⟨by decide, by decide⟩ c2) (fun r3 N5 h4 => ?_)
  have W := W r3 N5 h4.1 h4.2
  refine zr_istore_n (l' := [(0, zA g 7), (1, zI r3)]) dX4_readGrass_14 (by decide) [1, 0] rfl ?_
  refine zr_aload_n 0 dX4_readGrass_15 rfl ?_
  refine zt_geti 4 rfl dX4_readGrass_16 fX4_25 rfl (by decide) ?_
  refine zr_istore_n (l' := [(0, zA g 7), (1, zI r3), (2, zI (N5 7 4))]) dX4_readGrass_19 (by decide) [1, 2, 0] rfl ?_
  refine zr_aload_n 0 dX4_readGrass_20 rfl ?_
  refine zr_iconst dX4_readGrass_21 ?_
  refine zr_aload_n 0 dX4_readGrass_22 rfl ?_
  refine zr_getr (b := 8) dX4_readGrass_23 fX4_12 rfl rfl rfl (by decide) ?_
  refine zt_geti 1 rfl dX4_readGrass_26 fX4_120 rfl (by decide) ?_
  refine zr_iconst dX4_readGrass_29 ?_
  refine zr_isub dX4_readGrass_30 ?_
  obtain ⟨c6, W⟩ := W
  obtain ⟨c7, W⟩ := W
  refine zt_callVi (As := [zI 0, zI ((N5 8 1) - 1)]) (rest := []) dX4_readGrass_31 kX4_readGrass_92 rfl rfl rfl rfl (Nat.le_of_ble_eq_true rfl) (c_readNumber c6 ⟨by decide, by decide⟩ c7) (fun r8 N10 h9 => ?_)
  have W := W r8 N10 h9.1 h9.2
  refine zr_istore_n (l' := [(0, zA g 7), (1, zI r3), (2, zI (N5 7 4)), (3, zI r8)]) dX4_readGrass_34 (by decide) [1, 2, 3, 0] rfl ?_
  refine zr_aload_n 0 dX4_readGrass_35 rfl ?_
  refine zt_geti 2 rfl dX4_readGrass_36 fX4_18 rfl (by decide) ?_
  obtain ⟨c11, W⟩ := W
  refine zr_if_eq (tgt := 43) dX4_readGrass_39 (by decide) c11 (fun h => ?_) (fun h => ?_)
  · have W := W.1 h
    refine zr_iload_n 3 dX4_readGrass_43 rfl ?_
    refine zr_aload_n 0 dX4_readGrass_44 rfl ?_
    refine zr_getr (b := 8) dX4_readGrass_45 fX4_12 rfl rfl rfl (by decide) ?_
    refine zt_geti 0 rfl dX4_readGrass_48 fX4_117 rfl (by decide) ?_
    refine zr_imul dX4_readGrass_51 ?_
    refine zr_iload_n 1 dX4_readGrass_52 rfl ?_
    refine zr_iadd dX4_readGrass_53 ?_
    refine zr_istore (l' := [(0, zA g 7), (2, zI (N5 7 4)), (4, zI ((r8 * (N10 8 0)) + r3))]) dX4_readGrass_54 (by decide) [1, 3, 0] rfl ?_
    refine zr_aload_n 0 dX4_readGrass_56 rfl ?_
    refine zr_getr (b := 8) dX4_readGrass_57 fX4_12 rfl rfl rfl (by decide) ?_
    refine zr_getr (b := 11) dX4_readGrass_60 fX4_126 rfl rfl rfl (by decide) ?_
    refine zr_iload 2 dX4_readGrass_63 rfl ?_
    obtain ⟨c12, W⟩ := W
    refine zr_iald dX4_readGrass_65 rfl (by decide) c12 ?_
    refine zr_iconst dX4_readGrass_66 ?_
    obtain ⟨c13, W⟩ := W
    refine zr_icmp_ne (tgt := 76) dX4_readGrass_67 (by decide) c13 ⟨by decide, by decide⟩ (fun h => ?_) (fun h => ?_)
    · have W := W.1 h
      refine zr_aload_n 0 dX4_readGrass_76 rfl ?_
      refine zr_getr (b := 8) dX4_readGrass_77 fX4_12 rfl rfl rfl (by decide) ?_
      refine zr_getr (b := 11) dX4_readGrass_80 fX4_126 rfl rfl rfl (by decide) ?_
      refine zr_iload 2 dX4_readGrass_83 rfl ?_
      refine zr_iconst dX4_readGrass_85 ?_
      refine zr_iast dX4_readGrass_86 rfl (by decide) c12 ?_
      exact zt_ret dX4_readGrass_87 rfl W
    · have W := W.2 h
      refine zr_aload_n 0 dX4_readGrass_70 rfl ?_
      refine zr_iconst dX4_readGrass_71 ?_
      refine zr_iload_n 1 dX4_readGrass_72 rfl ?_
      obtain ⟨c14, W⟩ := W
      obtain ⟨c15, W⟩ := W
      refine zt_callVv (As := [zI 3, zI (N5 7 4)]) (rest := []) dX4_readGrass_73 kX4_readGrass_69 rfl rfl rfl rfl (Nat.le_of_ble_eq_true rfl) (c_refuse c14 c15) (fun N18 h17 => ?_)
      have W := W N18 h17
      refine zr_aload_n 0 dX4_readGrass_76 rfl ?_
      refine zr_getr (b := 8) dX4_readGrass_77 fX4_12 rfl rfl rfl (by decide) ?_
      refine zr_getr (b := 11) dX4_readGrass_80 fX4_126 rfl rfl rfl (by decide) ?_
      refine zr_iload 2 dX4_readGrass_83 rfl ?_
      refine zr_iconst dX4_readGrass_85 ?_
      refine zr_iast dX4_readGrass_86 rfl (by decide) c12 ?_
      exact zt_ret dX4_readGrass_87 rfl W
  · have W := W.2 h
    exact zt_ret dX4_readGrass_42 rfl W
theorem dX4_readWind_0 : decode cX4_readWind 0 = .ok (.aload_n 0, 1) := by decide +kernel
theorem dX4_readWind_1 : decode cX4_readWind 1 = .ok (.getfield 12, 3) := by decide +kernel
theorem dX4_readWind_4 : decode cX4_readWind 4 = .ok (.iconst 0, 1) := by decide +kernel
theorem dX4_readWind_5 : decode cX4_readWind 5 = .ok (.putfield 129, 3) := by decide +kernel
theorem dX4_readWind_8 : decode cX4_readWind 8 = .ok (.iconst 0, 1) := by decide +kernel
theorem dX4_readWind_9 : decode cX4_readWind 9 = .ok (.istore_n 1, 1) := by decide +kernel
theorem dX4_readWind_10 : decode cX4_readWind 10 = .ok (.iload_n 1, 1) := by decide +kernel
theorem dX4_readWind_11 : decode cX4_readWind 11 = .ok (.bipush 8, 2) := by decide +kernel
theorem dX4_readWind_13 : decode cX4_readWind 13 = .ok (.if_icmp .ge 102, 3) := by decide +kernel
theorem dX4_readWind_16 : decode cX4_readWind 16 = .ok (.aload_n 0, 1) := by decide +kernel
theorem dX4_readWind_17 : decode cX4_readWind 17 = .ok (.getfield 18, 3) := by decide +kernel
theorem dX4_readWind_20 : decode cX4_readWind 20 = .ok (.ifCond .ne 95, 3) := by decide +kernel
theorem dX4_readWind_23 : decode cX4_readWind 23 = .ok (.iload_n 1, 1) := by decide +kernel
theorem dX4_readWind_24 : decode cX4_readWind 24 = .ok (.ifCond .le 12, 3) := by decide +kernel
theorem dX4_readWind_27 : decode cX4_readWind 27 = .ok (.aload_n 0, 1) := by decide +kernel
theorem dX4_readWind_28 : decode cX4_readWind 28 = .ok (.invokevirtual 40, 3) := by decide +kernel
theorem dX4_readWind_31 : decode cX4_readWind 31 = .ok (.iconst 3, 1) := by decide +kernel
theorem dX4_readWind_32 : decode cX4_readWind 32 = .ok (.if_icmp .ne 4, 3) := by decide +kernel
theorem dX4_readWind_35 : decode cX4_readWind 35 = .ok (.return_, 1) := by decide +kernel
theorem dX4_readWind_36 : decode cX4_readWind 36 = .ok (.aload_n 0, 1) := by decide +kernel
theorem dX4_readWind_37 : decode cX4_readWind 37 = .ok (.invokevirtual 73, 3) := by decide +kernel
theorem dX4_readWind_40 : decode cX4_readWind 40 = .ok (.bipush 10, 2) := by decide +kernel
theorem dX4_readWind_42 : decode cX4_readWind 42 = .ok (.isub, 1) := by decide +kernel
theorem dX4_readWind_43 : decode cX4_readWind 43 = .ok (.istore_n 2, 1) := by decide +kernel
theorem dX4_readWind_44 : decode cX4_readWind 44 = .ok (.aload_n 0, 1) := by decide +kernel
theorem dX4_readWind_45 : decode cX4_readWind 45 = .ok (.aload_n 0, 1) := by decide +kernel
theorem dX4_readWind_46 : decode cX4_readWind 46 = .ok (.invokevirtual 40, 3) := by decide +kernel
theorem dX4_readWind_49 : decode cX4_readWind 49 = .ok (.iconst 1, 1) := by decide +kernel
theorem dX4_readWind_50 : decode cX4_readWind 50 = .ok (.if_icmp .ne 16, 3) := by decide +kernel
theorem dX4_readWind_53 : decode cX4_readWind 53 = .ok (.iload_n 2, 1) := by decide +kernel
theorem dX4_readWind_54 : decode cX4_readWind 54 = .ok (.ifCond .lt 12, 3) := by decide +kernel
theorem dX4_readWind_57 : decode cX4_readWind 57 = .ok (.iload_n 2, 1) := by decide +kernel
theorem dX4_readWind_58 : decode cX4_readWind 58 = .ok (.iconst 3, 1) := by decide +kernel
theorem dX4_readWind_59 : decode cX4_readWind 59 = .ok (.if_icmp .gt 7, 3) := by decide +kernel
theorem dX4_readWind_62 : decode cX4_readWind 62 = .ok (.iconst 1, 1) := by decide +kernel
theorem dX4_readWind_63 : decode cX4_readWind 63 = .ok (.goto 4, 3) := by decide +kernel
theorem dX4_readWind_66 : decode cX4_readWind 66 = .ok (.iconst 0, 1) := by decide +kernel
theorem dX4_readWind_67 : decode cX4_readWind 67 = .ok (.invokevirtual 55, 3) := by decide +kernel
theorem dX4_readWind_70 : decode cX4_readWind 70 = .ok (.aload_n 0, 1) := by decide +kernel
theorem dX4_readWind_71 : decode cX4_readWind 71 = .ok (.getfield 12, 3) := by decide +kernel
theorem dX4_readWind_74 : decode cX4_readWind 74 = .ok (.getfield 132, 3) := by decide +kernel
theorem dX4_readWind_77 : decode cX4_readWind 77 = .ok (.iload_n 1, 1) := by decide +kernel
theorem dX4_readWind_78 : decode cX4_readWind 78 = .ok (.iload_n 2, 1) := by decide +kernel
theorem dX4_readWind_79 : decode cX4_readWind 79 = .ok (.iastore, 1) := by decide +kernel
theorem dX4_readWind_80 : decode cX4_readWind 80 = .ok (.aload_n 0, 1) := by decide +kernel
theorem dX4_readWind_81 : decode cX4_readWind 81 = .ok (.getfield 12, 3) := by decide +kernel
theorem dX4_readWind_84 : decode cX4_readWind 84 = .ok (.getfield 135, 3) := by decide +kernel
theorem dX4_readWind_87 : decode cX4_readWind 87 = .ok (.iload_n 1, 1) := by decide +kernel
theorem dX4_readWind_88 : decode cX4_readWind 88 = .ok (.aload_n 0, 1) := by decide +kernel
theorem dX4_readWind_89 : decode cX4_readWind 89 = .ok (.iconst 1, 1) := by decide +kernel
theorem dX4_readWind_90 : decode cX4_readWind 90 = .ok (.bipush 99, 2) := by decide +kernel
theorem dX4_readWind_92 : decode cX4_readWind 92 = .ok (.invokevirtual 92, 3) := by decide +kernel
theorem dX4_readWind_95 : decode cX4_readWind 95 = .ok (.iastore, 1) := by decide +kernel
theorem dX4_readWind_96 : decode cX4_readWind 96 = .ok (.aload_n 0, 1) := by decide +kernel
theorem dX4_readWind_97 : decode cX4_readWind 97 = .ok (.getfield 12, 3) := by decide +kernel
theorem dX4_readWind_100 : decode cX4_readWind 100 = .ok (.dup, 1) := by decide +kernel
theorem dX4_readWind_101 : decode cX4_readWind 101 = .ok (.getfield 129, 3) := by decide +kernel
theorem dX4_readWind_104 : decode cX4_readWind 104 = .ok (.iconst 1, 1) := by decide +kernel
theorem dX4_readWind_105 : decode cX4_readWind 105 = .ok (.iadd, 1) := by decide +kernel
theorem dX4_readWind_106 : decode cX4_readWind 106 = .ok (.putfield 129, 3) := by decide +kernel
theorem dX4_readWind_109 : decode cX4_readWind 109 = .ok (.iinc 1 1, 3) := by decide +kernel
theorem dX4_readWind_112 : decode cX4_readWind 112 = .ok (.goto (-102), 3) := by decide +kernel
theorem dX4_readWind_115 : decode cX4_readWind 115 = .ok (.return_, 1) := by decide +kernel
set_option maxRecDepth 100000 in
theorem SX4_readWind_0 {g : zG} {o : Bool} {M : zM} {q : zM → Prop} (W : zT g (z1 o) mX4_readWind (zQv (z1 o) q) 10 [(0, zA g 7), (1, zI 0)] [] (zu M 8 6 0)) : zT g (z1 o) mX4_readWind (zQv (z1 o) q) 0 [(0, zA g 7)] [] M := by
  refine zr_aload_n 0 dX4_readWind_0 rfl ?_
  refine zr_getr (b := 8) dX4_readWind_1 fX4_12 rfl rfl rfl (by decide) ?_
  refine zr_iconst dX4_readWind_4 ?_
  refine zt_puti 6 rfl dX4_readWind_5 fX4_129 lcX0 ltX0_6 rfl rfl ?_
  refine zr_iconst dX4_readWind_8 ?_
  refine zr_istore_n (l' := [(0, zA g 7), (1, zI 0)]) dX4_readWind_9 (by decide) [1, 0] rfl ?_
  exact W
set_option maxRecDepth 100000 in
theorem SX4_readWind_10 {g : zG} {o : Bool} {M : zM} {q : zM → Prop} {x1 : Int} (W : (-2147483648 ≤ x1 ∧ x1 ≤ 2147483647) ∧ ((8 ≤ x1) → q M) ∧ ((¬ (8 ≤ x1)) → (-2147483648 ≤ (M 7 2) ∧ (M 7 2) ≤ 2147483647) ∧ (((M 7 2) ≠ 0) → q M) ∧ (((M 7 2) = 0) → ((x1 ≤ 0) → zT g (z1 o) mX4_readWind (zQv (z1 o) q) 36 [(0, zA g 7), (1, zI x1)] [] M) ∧ ((¬ (x1 ≤ 0)) → (0 ≤ M 7 4 ∧ M 7 4 < 901) ∧ (-2147483648 ≤ (M 4 (M 7 4)) ∧ (M 4 (M 7 4)) ≤ 2147483647) ∧ (((M 4 (M 7 4)) ≠ 3) → zT g (z1 o) mX4_readWind (zQv (z1 o) q) 36 [(0, zA g 7), (1, zI x1)] [] M) ∧ (((M 4 (M 7 4)) = 3) → q M))))) : zT g (z1 o) mX4_readWind (zQv (z1 o) q) 10 [(0, zA g 7), (1, zI x1)] [] M := by
  refine zr_iload_n 1 dX4_readWind_10 rfl ?_
  refine zr_bipush dX4_readWind_11 (by decide) ?_
  obtain ⟨c1, W⟩ := W
  refine zr_icmp_ge (tgt := 115) dX4_readWind_13 (by decide) c1 ⟨by decide, by decide⟩ (fun h => ?_) (fun h => ?_)
  · have W := W.1 h
    exact zt_ret dX4_readWind_115 rfl W
  · have W := W.2 h
    refine zr_aload_n 0 dX4_readWind_16 rfl ?_
    refine zt_geti 2 rfl dX4_readWind_17 fX4_18 rfl (by decide) ?_
    obtain ⟨c2, W⟩ := W
    refine zr_if_ne (tgt := 115) dX4_readWind_20 (by decide) c2 (fun h => ?_) (fun h => ?_)
    · have W := W.1 h
      exact zt_ret dX4_readWind_115 rfl W
    · have W := W.2 h
      refine zr_iload_n 1 dX4_readWind_23 rfl ?_
      refine zr_if_le (tgt := 36) dX4_readWind_24 (by decide) c1 (fun h => ?_) (fun h => ?_)
      · have W := W.1 h
        exact W
      · have W := W.2 h
        refine zr_aload_n 0 dX4_readWind_27 rfl ?_
        obtain ⟨c3, W⟩ := W
        refine zt_callVi (As := []) (rest := []) dX4_readWind_28 kX4_readWind_40 rfl rfl rfl rfl (Nat.le_of_ble_eq_true rfl) (c_kind c3) (fun r4 N6 h5 => ?_)
        rw [h5.1, h5.2]
        refine zr_iconst dX4_readWind_31 ?_
        obtain ⟨c7, W⟩ := W
        refine zr_icmp_ne (tgt := 36) dX4_readWind_32 (by decide) c7 ⟨by decide, by decide⟩ (fun h => ?_) (fun h => ?_)
        · have W := W.1 h
          exact W
        · have W := W.2 h
          exact zt_ret dX4_readWind_35 rfl W
set_option maxRecDepth 100000 in
theorem SX4_readWind_36 {g : zG} {o : Bool} {M : zM} {q : zM → Prop} {x1 : Int} (W : (0 ≤ M 7 4 ∧ M 7 4 < 901) ∧ (-2147483648 ≤ (M 4 (M 7 4)) ∧ (M 4 (M 7 4)) ≤ 2147483647) ∧ (((M 4 (M 7 4)) ≠ 1) → (rdO M) ∧ ∀ N12 : zM, N12 = pst M (xpS (M 4) (M 5) 0 (gst M)) → (0 ≤ x1 ∧ x1 < 8) ∧ (rdO (zu N12 12 x1 ((M 6 (M 7 4)) - 10))) ∧ ∀ (r15 : Int) (N17 : zM), r15 = nmV ((zu N12 12 x1 ((M 6 (M 7 4)) - 10)) 4) ((zu N12 12 x1 ((M 6 (M 7 4)) - 10)) 6) 1 99 (gst (zu N12 12 x1 ((M 6 (M 7 4)) - 10))) → N17 = pst (zu N12 12 x1 ((M 6 (M 7 4)) - 10)) (nmS ((zu N12 12 x1 ((M 6 (M 7 4)) - 10)) 4) ((zu N12 12 x1 ((M 6 (M 7 4)) - 10)) 5) ((zu N12 12 x1 ((M 6 (M 7 4)) - 10)) 6) 1 99 (gst (zu N12 12 x1 ((M 6 (M 7 4)) - 10)))) → ∀ N18 : zM, N18 = zu N17 13 x1 r15 → zT g (z1 o) mX4_readWind (zQv (z1 o) q) 10 [(0, zA g 7), (1, zI (x1 + 1))] [] (zu N18 8 6 ((N18 8 6) + 1))) ∧ (((M 4 (M 7 4)) = 1) → (-2147483648 ≤ ((M 6 (M 7 4)) - 10) ∧ ((M 6 (M 7 4)) - 10) ≤ 2147483647) ∧ ((((M 6 (M 7 4)) - 10) < 0) → (rdO M) ∧ ∀ N24 : zM, N24 = pst M (xpS (M 4) (M 5) 0 (gst M)) → (0 ≤ x1 ∧ x1 < 8) ∧ (rdO (zu N24 12 x1 ((M 6 (M 7 4)) - 10))) ∧ ∀ (r27 : Int) (N29 : zM), r27 = nmV ((zu N24 12 x1 ((M 6 (M 7 4)) - 10)) 4) ((zu N24 12 x1 ((M 6 (M 7 4)) - 10)) 6) 1 99 (gst (zu N24 12 x1 ((M 6 (M 7 4)) - 10))) → N29 = pst (zu N24 12 x1 ((M 6 (M 7 4)) - 10)) (nmS ((zu N24 12 x1 ((M 6 (M 7 4)) - 10)) 4) ((zu N24 12 x1 ((M 6 (M 7 4)) - 10)) 5) ((zu N24 12 x1 ((M 6 (M 7 4)) - 10)) 6) 1 99 (gst (zu N24 12 x1 ((M 6 (M 7 4)) - 10)))) → ∀ N30 : zM, N30 = zu N29 13 x1 r27 → zT g (z1 o) mX4_readWind (zQv (z1 o) q) 10 [(0, zA g 7), (1, zI (x1 + 1))] [] (zu N30 8 6 ((N30 8 6) + 1))) ∧ ((¬ (((M 6 (M 7 4)) - 10) < 0)) → ((3 < ((M 6 (M 7 4)) - 10)) → (rdO M) ∧ ∀ N35 : zM, N35 = pst M (xpS (M 4) (M 5) 0 (gst M)) → (0 ≤ x1 ∧ x1 < 8) ∧ (rdO (zu N35 12 x1 ((M 6 (M 7 4)) - 10))) ∧ ∀ (r38 : Int) (N40 : zM), r38 = nmV ((zu N35 12 x1 ((M 6 (M 7 4)) - 10)) 4) ((zu N35 12 x1 ((M 6 (M 7 4)) - 10)) 6) 1 99 (gst (zu N35 12 x1 ((M 6 (M 7 4)) - 10))) → N40 = pst (zu N35 12 x1 ((M 6 (M 7 4)) - 10)) (nmS ((zu N35 12 x1 ((M 6 (M 7 4)) - 10)) 4) ((zu N35 12 x1 ((M 6 (M 7 4)) - 10)) 5) ((zu N35 12 x1 ((M 6 (M 7 4)) - 10)) 6) 1 99 (gst (zu N35 12 x1 ((M 6 (M 7 4)) - 10)))) → ∀ N41 : zM, N41 = zu N40 13 x1 r38 → zT g (z1 o) mX4_readWind (zQv (z1 o) q) 10 [(0, zA g 7), (1, zI (x1 + 1))] [] (zu N41 8 6 ((N41 8 6) + 1))) ∧ ((¬ (3 < ((M 6 (M 7 4)) - 10))) → (rdO M) ∧ ∀ N46 : zM, N46 = pst M (xpS (M 4) (M 5) 1 (gst M)) → (0 ≤ x1 ∧ x1 < 8) ∧ (rdO (zu N46 12 x1 ((M 6 (M 7 4)) - 10))) ∧ ∀ (r49 : Int) (N51 : zM), r49 = nmV ((zu N46 12 x1 ((M 6 (M 7 4)) - 10)) 4) ((zu N46 12 x1 ((M 6 (M 7 4)) - 10)) 6) 1 99 (gst (zu N46 12 x1 ((M 6 (M 7 4)) - 10))) → N51 = pst (zu N46 12 x1 ((M 6 (M 7 4)) - 10)) (nmS ((zu N46 12 x1 ((M 6 (M 7 4)) - 10)) 4) ((zu N46 12 x1 ((M 6 (M 7 4)) - 10)) 5) ((zu N46 12 x1 ((M 6 (M 7 4)) - 10)) 6) 1 99 (gst (zu N46 12 x1 ((M 6 (M 7 4)) - 10)))) → ∀ N52 : zM, N52 = zu N51 13 x1 r49 → zT g (z1 o) mX4_readWind (zQv (z1 o) q) 10 [(0, zA g 7), (1, zI (x1 + 1))] [] (zu N52 8 6 ((N52 8 6) + 1)))))) : zT g (z1 o) mX4_readWind (zQv (z1 o) q) 36 [(0, zA g 7), (1, zI x1)] [] M := by
  refine zr_aload_n 0 dX4_readWind_36 rfl ?_
  obtain ⟨c1, W⟩ := W
  refine zt_callVi (As := []) (rest := []) dX4_readWind_37 kX4_readWind_73 rfl rfl rfl rfl (Nat.le_of_ble_eq_true rfl) (c_value c1) (fun r2 N4 h3 => ?_)
  rw [h3.1, h3.2]
  refine zr_bipush dX4_readWind_40 (by decide) ?_
  refine zr_isub dX4_readWind_42 ?_
  refine zr_istore_n (l' := [(0, zA g 7), (1, zI x1), (2, zI ((M 6 (M 7 4)) - 10))]) dX4_readWind_43 (by decide) [1, 2, 0] rfl ?_
  refine zr_aload_n 0 dX4_readWind_44 rfl ?_
  refine zr_aload_n 0 dX4_readWind_45 rfl ?_
  refine zt_callVi (As := []) (rest := [zA g 7]) dX4_readWind_46 kX4_readWind_40 rfl rfl rfl rfl (Nat.le_of_ble_eq_true rfl) (c_kind c1) (fun r5 N7 h6 => ?_)
  rw [h6.1, h6.2]
  refine zr_iconst dX4_readWind_49 ?_
  obtain ⟨c8, W⟩ := W
  refine zr_icmp_ne (tgt := 66) dX4_readWind_50 (by decide) c8 ⟨by decide, by decide⟩ (fun h => ?_) (fun h => ?_)
  · have W := W.1 h
    refine zr_iconst dX4_readWind_66 ?_
    obtain ⟨c9, W⟩ := W
    refine zt_callVv (As := [zI 0]) (rest := []) dX4_readWind_67 kX4_readWind_55 rfl rfl rfl rfl (Nat.le_of_ble_eq_true rfl) (c_expect c9 (by decide)) (fun N12 h11 => ?_)
    have W := W N12 h11
    refine zr_aload_n 0 dX4_readWind_70 rfl ?_
    refine zr_getr (b := 8) dX4_readWind_71 fX4_12 rfl rfl rfl (by decide) ?_
    refine zr_getr (b := 12) dX4_readWind_74 fX4_132 rfl rfl rfl (by decide) ?_
    refine zr_iload_n 1 dX4_readWind_77 rfl ?_
    refine zr_iload_n 2 dX4_readWind_78 rfl ?_
    obtain ⟨c13, W⟩ := W
    refine zr_iast dX4_readWind_79 rfl (by decide) c13 ?_
    refine zr_aload_n 0 dX4_readWind_80 rfl ?_
    refine zr_getr (b := 8) dX4_readWind_81 fX4_12 rfl rfl rfl (by decide) ?_
    refine zr_getr (b := 13) dX4_readWind_84 fX4_135 rfl rfl rfl (by decide) ?_
    refine zr_iload_n 1 dX4_readWind_87 rfl ?_
    refine zr_aload_n 0 dX4_readWind_88 rfl ?_
    refine zr_iconst dX4_readWind_89 ?_
    refine zr_bipush dX4_readWind_90 (by decide) ?_
    obtain ⟨c14, W⟩ := W
    refine zt_callVi (As := [zI 1, zI 99]) (rest := [zI x1, zA g 13]) dX4_readWind_92 kX4_readWind_92 rfl rfl rfl rfl (Nat.le_of_ble_eq_true rfl) (c_readNumber c14 ⟨by decide, by decide⟩ ⟨by decide, by decide⟩) (fun r15 N17 h16 => ?_)
    have W := W r15 N17 h16.1 h16.2
    refine zr_iast dX4_readWind_95 rfl (by decide) c13 ?_
    refine zr_aload_n 0 dX4_readWind_96 rfl ?_
    refine zr_getr (b := 8) dX4_readWind_97 fX4_12 rfl rfl rfl (by decide) ?_
    refine zr_dup dX4_readWind_100 rfl ?_
    refine zt_geti 6 rfl dX4_readWind_101 fX4_129 rfl (by decide) ?_
    refine zr_iconst dX4_readWind_104 ?_
    refine zr_iadd dX4_readWind_105 ?_
    obtain ⟨N18, e19⟩ : ∃ N : zM, N = zu N17 13 x1 r15 := ⟨_, rfl⟩
    rw [← e19]
    have W := W N18 e19
    refine zt_puti 6 rfl dX4_readWind_106 fX4_129 lcX0 ltX0_6 rfl rfl ?_
    refine zr_iinc (q := 1) (l' := [(0, zA g 7), (1, zI (x1 + 1))]) dX4_readWind_109 rfl (by decide) [1, 0] rfl ?_
    refine zr_goto (tgt := 10) dX4_readWind_112 (by decide) ?_
    exact W
  · have W := W.2 h
    refine zr_iload_n 2 dX4_readWind_53 rfl ?_
    obtain ⟨c20, W⟩ := W
    refine zr_if_lt (tgt := 66) dX4_readWind_54 (by decide) c20 (fun h => ?_) (fun h => ?_)
    · have W := W.1 h
      refine zr_iconst dX4_readWind_66 ?_
      obtain ⟨c21, W⟩ := W
      refine zt_callVv (As := [zI 0]) (rest := []) dX4_readWind_67 kX4_readWind_55 rfl rfl rfl rfl (Nat.le_of_ble_eq_true rfl) (c_expect c21 (by decide)) (fun N24 h23 => ?_)
      have W := W N24 h23
      refine zr_aload_n 0 dX4_readWind_70 rfl ?_
      refine zr_getr (b := 8) dX4_readWind_71 fX4_12 rfl rfl rfl (by decide) ?_
      refine zr_getr (b := 12) dX4_readWind_74 fX4_132 rfl rfl rfl (by decide) ?_
      refine zr_iload_n 1 dX4_readWind_77 rfl ?_
      refine zr_iload_n 2 dX4_readWind_78 rfl ?_
      obtain ⟨c25, W⟩ := W
      refine zr_iast dX4_readWind_79 rfl (by decide) c25 ?_
      refine zr_aload_n 0 dX4_readWind_80 rfl ?_
      refine zr_getr (b := 8) dX4_readWind_81 fX4_12 rfl rfl rfl (by decide) ?_
      refine zr_getr (b := 13) dX4_readWind_84 fX4_135 rfl rfl rfl (by decide) ?_
      refine zr_iload_n 1 dX4_readWind_87 rfl ?_
      refine zr_aload_n 0 dX4_readWind_88 rfl ?_
      refine zr_iconst dX4_readWind_89 ?_
      refine zr_bipush dX4_readWind_90 (by decide) ?_
      obtain ⟨c26, W⟩ := W
      refine zt_callVi (As := [zI 1, zI 99]) (rest := [zI x1, zA g 13]) dX4_readWind_92 kX4_readWind_92 rfl rfl rfl rfl (Nat.le_of_ble_eq_true rfl) (c_readNumber c26 ⟨by decide, by decide⟩ ⟨by decide, by decide⟩) (fun r27 N29 h28 => ?_)
      have W := W r27 N29 h28.1 h28.2
      refine zr_iast dX4_readWind_95 rfl (by decide) c25 ?_
      refine zr_aload_n 0 dX4_readWind_96 rfl ?_
      refine zr_getr (b := 8) dX4_readWind_97 fX4_12 rfl rfl rfl (by decide) ?_
      refine zr_dup dX4_readWind_100 rfl ?_
      refine zt_geti 6 rfl dX4_readWind_101 fX4_129 rfl (by decide) ?_
      refine zr_iconst dX4_readWind_104 ?_
      refine zr_iadd dX4_readWind_105 ?_
      obtain ⟨N30, e31⟩ : ∃ N : zM, N = zu N29 13 x1 r27 := ⟨_, rfl⟩
      rw [← e31]
      have W := W N30 e31
      refine zt_puti 6 rfl dX4_readWind_106 fX4_129 lcX0 ltX0_6 rfl rfl ?_
      refine zr_iinc (q := 1) (l' := [(0, zA g 7), (1, zI (x1 + 1))]) dX4_readWind_109 rfl (by decide) [1, 0] rfl ?_
      refine zr_goto (tgt := 10) dX4_readWind_112 (by decide) ?_
      exact W
    · have W := W.2 h
      refine zr_iload_n 2 dX4_readWind_57 rfl ?_
      refine zr_iconst dX4_readWind_58 ?_
      refine zr_icmp_gt (tgt := 66) dX4_readWind_59 (by decide) c20 ⟨by decide, by decide⟩ (fun h => ?_) (fun h => ?_)
      · have W := W.1 h
        refine zr_iconst dX4_readWind_66 ?_
        obtain ⟨c32, W⟩ := W
        refine zt_callVv (As := [zI 0]) (rest := []) dX4_readWind_67 kX4_readWind_55 rfl rfl rfl rfl (Nat.le_of_ble_eq_true rfl) (c_expect c32 (by decide)) (fun N35 h34 => ?_)
        have W := W N35 h34
        refine zr_aload_n 0 dX4_readWind_70 rfl ?_
        refine zr_getr (b := 8) dX4_readWind_71 fX4_12 rfl rfl rfl (by decide) ?_
        refine zr_getr (b := 12) dX4_readWind_74 fX4_132 rfl rfl rfl (by decide) ?_
        refine zr_iload_n 1 dX4_readWind_77 rfl ?_
        refine zr_iload_n 2 dX4_readWind_78 rfl ?_
        obtain ⟨c36, W⟩ := W
        refine zr_iast dX4_readWind_79 rfl (by decide) c36 ?_
        refine zr_aload_n 0 dX4_readWind_80 rfl ?_
        refine zr_getr (b := 8) dX4_readWind_81 fX4_12 rfl rfl rfl (by decide) ?_
        refine zr_getr (b := 13) dX4_readWind_84 fX4_135 rfl rfl rfl (by decide) ?_
        refine zr_iload_n 1 dX4_readWind_87 rfl ?_
        refine zr_aload_n 0 dX4_readWind_88 rfl ?_
        refine zr_iconst dX4_readWind_89 ?_
        refine zr_bipush dX4_readWind_90 (by decide) ?_
        obtain ⟨c37, W⟩ := W
        refine zt_callVi (As := [zI 1, zI 99]) (rest := [zI x1, zA g 13]) dX4_readWind_92 kX4_readWind_92 rfl rfl rfl rfl (Nat.le_of_ble_eq_true rfl) (c_readNumber c37 ⟨by decide, by decide⟩ ⟨by decide, by decide⟩) (fun r38 N40 h39 => ?_)
        have W := W r38 N40 h39.1 h39.2
        refine zr_iast dX4_readWind_95 rfl (by decide) c36 ?_
        refine zr_aload_n 0 dX4_readWind_96 rfl ?_
        refine zr_getr (b := 8) dX4_readWind_97 fX4_12 rfl rfl rfl (by decide) ?_
        refine zr_dup dX4_readWind_100 rfl ?_
        refine zt_geti 6 rfl dX4_readWind_101 fX4_129 rfl (by decide) ?_
        refine zr_iconst dX4_readWind_104 ?_
        refine zr_iadd dX4_readWind_105 ?_
        obtain ⟨N41, e42⟩ : ∃ N : zM, N = zu N40 13 x1 r38 := ⟨_, rfl⟩
        rw [← e42]
        have W := W N41 e42
        refine zt_puti 6 rfl dX4_readWind_106 fX4_129 lcX0 ltX0_6 rfl rfl ?_
        refine zr_iinc (q := 1) (l' := [(0, zA g 7), (1, zI (x1 + 1))]) dX4_readWind_109 rfl (by decide) [1, 0] rfl ?_
        refine zr_goto (tgt := 10) dX4_readWind_112 (by decide) ?_
        exact W
      · have W := W.2 h
        refine zr_iconst dX4_readWind_62 ?_
        refine zr_goto (tgt := 67) dX4_readWind_63 (by decide) ?_
        obtain ⟨c43, W⟩ := W
        refine zt_callVv (As := [zI 1]) (rest := []) dX4_readWind_67 kX4_readWind_55 rfl rfl rfl rfl (Nat.le_of_ble_eq_true rfl) (c_expect c43 (by decide)) (fun N46 h45 => ?_)
        have W := W N46 h45
        refine zr_aload_n 0 dX4_readWind_70 rfl ?_
        refine zr_getr (b := 8) dX4_readWind_71 fX4_12 rfl rfl rfl (by decide) ?_
        refine zr_getr (b := 12) dX4_readWind_74 fX4_132 rfl rfl rfl (by decide) ?_
        refine zr_iload_n 1 dX4_readWind_77 rfl ?_
        refine zr_iload_n 2 dX4_readWind_78 rfl ?_
        obtain ⟨c47, W⟩ := W
        refine zr_iast dX4_readWind_79 rfl (by decide) c47 ?_
        refine zr_aload_n 0 dX4_readWind_80 rfl ?_
        refine zr_getr (b := 8) dX4_readWind_81 fX4_12 rfl rfl rfl (by decide) ?_
        refine zr_getr (b := 13) dX4_readWind_84 fX4_135 rfl rfl rfl (by decide) ?_
        refine zr_iload_n 1 dX4_readWind_87 rfl ?_
        refine zr_aload_n 0 dX4_readWind_88 rfl ?_
        refine zr_iconst dX4_readWind_89 ?_
        refine zr_bipush dX4_readWind_90 (by decide) ?_
        obtain ⟨c48, W⟩ := W
        refine zt_callVi (As := [zI 1, zI 99]) (rest := [zI x1, zA g 13]) dX4_readWind_92 kX4_readWind_92 rfl rfl rfl rfl (Nat.le_of_ble_eq_true rfl) (c_readNumber c48 ⟨by decide, by decide⟩ ⟨by decide, by decide⟩) (fun r49 N51 h50 => ?_)
        have W := W r49 N51 h50.1 h50.2
        refine zr_iast dX4_readWind_95 rfl (by decide) c47 ?_
        refine zr_aload_n 0 dX4_readWind_96 rfl ?_
        refine zr_getr (b := 8) dX4_readWind_97 fX4_12 rfl rfl rfl (by decide) ?_
        refine zr_dup dX4_readWind_100 rfl ?_
        refine zt_geti 6 rfl dX4_readWind_101 fX4_129 rfl (by decide) ?_
        refine zr_iconst dX4_readWind_104 ?_
        refine zr_iadd dX4_readWind_105 ?_
        obtain ⟨N52, e53⟩ : ∃ N : zM, N = zu N51 13 x1 r49 := ⟨_, rfl⟩
        rw [← e53]
        have W := W N52 e53
        refine zt_puti 6 rfl dX4_readWind_106 fX4_129 lcX0 ltX0_6 rfl rfl ?_
        refine zr_iinc (q := 1) (l' := [(0, zA g 7), (1, zI (x1 + 1))]) dX4_readWind_109 rfl (by decide) [1, 0] rfl ?_
        refine zr_goto (tgt := 10) dX4_readWind_112 (by decide) ?_
        exact W
theorem dX4_readRest_0 : decode cX4_readRest 0 = .ok (.iload_n 1, 1) := by decide +kernel
theorem dX4_readRest_1 : decode cX4_readRest 1 = .ok (.tableswitch 142 0 8 #[51, 58, 75, 82, 89, 96, 104, 112, 129], 51) := by decide +kernel
theorem dX4_readRest_52 : decode cX4_readRest 52 = .ok (.aload_n 0, 1) := by decide +kernel
theorem dX4_readRest_53 : decode cX4_readRest 53 = .ok (.invokevirtual 89, 3) := by decide +kernel
theorem dX4_readRest_56 : decode cX4_readRest 56 = .ok (.goto 102, 3) := by decide +kernel
theorem dX4_readRest_59 : decode cX4_readRest 59 = .ok (.aload_n 0, 1) := by decide +kernel
theorem dX4_readRest_60 : decode cX4_readRest 60 = .ok (.getfield 12, 3) := by decide +kernel
theorem dX4_readRest_63 : decode cX4_readRest 63 = .ok (.aload_n 0, 1) := by decide +kernel
theorem dX4_readRest_64 : decode cX4_readRest 64 = .ok (.iconst 0, 1) := by decide +kernel
theorem dX4_readRest_65 : decode cX4_readRest 65 = .ok (.bipush 9, 2) := by decide +kernel
theorem dX4_readRest_67 : decode cX4_readRest 67 = .ok (.invokevirtual 92, 3) := by decide +kernel
theorem dX4_readRest_70 : decode cX4_readRest 70 = .ok (.putfield 96, 3) := by decide +kernel
theorem dX4_readRest_73 : decode cX4_readRest 73 = .ok (.goto 85, 3) := by decide +kernel
theorem dX4_readRest_76 : decode cX4_readRest 76 = .ok (.aload_n 0, 1) := by decide +kernel
theorem dX4_readRest_77 : decode cX4_readRest 77 = .ok (.invokevirtual 99, 3) := by decide +kernel
theorem dX4_readRest_80 : decode cX4_readRest 80 = .ok (.goto 78, 3) := by decide +kernel
theorem dX4_readRest_83 : decode cX4_readRest 83 = .ok (.aload_n 0, 1) := by decide +kernel
theorem dX4_readRest_84 : decode cX4_readRest 84 = .ok (.invokevirtual 102, 3) := by decide +kernel
theorem dX4_readRest_87 : decode cX4_readRest 87 = .ok (.goto 71, 3) := by decide +kernel
theorem dX4_readRest_90 : decode cX4_readRest 90 = .ok (.aload_n 0, 1) := by decide +kernel
theorem dX4_readRest_91 : decode cX4_readRest 91 = .ok (.invokevirtual 105, 3) := by decide +kernel
theorem dX4_readRest_94 : decode cX4_readRest 94 = .ok (.goto 64, 3) := by decide +kernel
theorem dX4_readRest_97 : decode cX4_readRest 97 = .ok (.aload_n 0, 1) := by decide +kernel
theorem dX4_readRest_98 : decode cX4_readRest 98 = .ok (.iconst 0, 1) := by decide +kernel
theorem dX4_readRest_99 : decode cX4_readRest 99 = .ok (.invokevirtual 108, 3) := by decide +kernel
theorem dX4_readRest_102 : decode cX4_readRest 102 = .ok (.goto 56, 3) := by decide +kernel
theorem dX4_readRest_105 : decode cX4_readRest 105 = .ok (.aload_n 0, 1) := by decide +kernel
theorem dX4_readRest_106 : decode cX4_readRest 106 = .ok (.iconst 1, 1) := by decide +kernel
theorem dX4_readRest_107 : decode cX4_readRest 107 = .ok (.invokevirtual 108, 3) := by decide +kernel
theorem dX4_readRest_110 : decode cX4_readRest 110 = .ok (.goto 48, 3) := by decide +kernel
theorem dX4_readRest_113 : decode cX4_readRest 113 = .ok (.aload_n 0, 1) := by decide +kernel
theorem dX4_readRest_114 : decode cX4_readRest 114 = .ok (.getfield 12, 3) := by decide +kernel
theorem dX4_readRest_117 : decode cX4_readRest 117 = .ok (.aload_n 0, 1) := by decide +kernel
theorem dX4_readRest_118 : decode cX4_readRest 118 = .ok (.iconst 1, 1) := by decide +kernel
theorem dX4_readRest_119 : decode cX4_readRest 119 = .ok (.bipush 9, 2) := by decide +kernel
theorem dX4_readRest_121 : decode cX4_readRest 121 = .ok (.invokevirtual 92, 3) := by decide +kernel
theorem dX4_readRest_124 : decode cX4_readRest 124 = .ok (.putfield 111, 3) := by decide +kernel
theorem dX4_readRest_127 : decode cX4_readRest 127 = .ok (.goto 31, 3) := by decide +kernel
theorem dX4_readRest_130 : decode cX4_readRest 130 = .ok (.aload_n 0, 1) := by decide +kernel
theorem dX4_readRest_131 : decode cX4_readRest 131 = .ok (.iconst 2, 1) := by decide +kernel
theorem dX4_readRest_132 : decode cX4_readRest 132 = .ok (.invokevirtual 108, 3) := by decide +kernel
theorem dX4_readRest_135 : decode cX4_readRest 135 = .ok (.aload_n 0, 1) := by decide +kernel
theorem dX4_readRest_136 : decode cX4_readRest 136 = .ok (.iconst 3, 1) := by decide +kernel
theorem dX4_readRest_137 : decode cX4_readRest 137 = .ok (.invokevirtual 108, 3) := by decide +kernel
theorem dX4_readRest_140 : decode cX4_readRest 140 = .ok (.goto 18, 3) := by decide +kernel
theorem dX4_readRest_143 : decode cX4_readRest 143 = .ok (.aload_n 0, 1) := by decide +kernel
theorem dX4_readRest_144 : decode cX4_readRest 144 = .ok (.getfield 12, 3) := by decide +kernel
theorem dX4_readRest_147 : decode cX4_readRest 147 = .ok (.aload_n 0, 1) := by decide +kernel
theorem dX4_readRest_148 : decode cX4_readRest 148 = .ok (.iconst 0, 1) := by decide +kernel
theorem dX4_readRest_149 : decode cX4_readRest 149 = .ok (.sipush 9999, 3) := by decide +kernel
theorem dX4_readRest_152 : decode cX4_readRest 152 = .ok (.invokevirtual 92, 3) := by decide +kernel
theorem dX4_readRest_155 : decode cX4_readRest 155 = .ok (.putfield 114, 3) := by decide +kernel
theorem dX4_readRest_158 : decode cX4_readRest 158 = .ok (.return_, 1) := by decide +kernel
set_option maxRecDepth 100000 in
theorem SX4_readRest_0 {g : zG} {o : Bool} {M : zM} {q : zM → Prop} {x1 : Int} (W : (-2147483648 ≤ x1 ∧ x1 ≤ 2147483647) ∧ (x1 = 0 → ∃ q2 : zM → Prop, zKv g (z1 o) mX4_readSize [zA g 7] M q2 ∧ ∀ M4 : zM, q2 M4 → q M4) ∧ (x1 = 1 → (rdO M) ∧ ∀ (r8 : Int) (N10 : zM), r8 = nmV (M 4) (M 6) 0 9 (gst M) → N10 = pst M (nmS (M 4) (M 5) (M 6) 0 9 (gst M)) → q (zu N10 8 2 r8)) ∧ (x1 = 2 → ∃ q11 : zM → Prop, zKv g (z1 o) mX4_readHeap [zA g 7] M q11 ∧ ∀ M13 : zM, q11 M13 → q M13) ∧ (x1 = 3 → ∃ q16 : zM → Prop, zKv g (z1 o) mX4_readGrass [zA g 7] M q16 ∧ ∀ M18 : zM, q16 M18 → q M18) ∧ (x1 = 4 → ∃ q21 : zM → Prop, zKv g (z1 o) mX4_readWind [zA g 7] M q21 ∧ ∀ M23 : zM, q21 M23 → q M23) ∧ (x1 = 5 → (rdO M) ∧ ∀ N29 : zM, N29 = numF 1 6 9 0 M → q N29) ∧ (x1 = 6 → (rdO M) ∧ ∀ N33 : zM, N33 = numF 1 9 9 1 M → q N33) ∧ (x1 = 7 → (rdO M) ∧ ∀ (r35 : Int) (N37 : zM), r35 = nmV (M 4) (M 6) 1 9 (gst M) → N37 = pst M (nmS (M 4) (M 5) (M 6) 1 9 (gst M)) → q (zu N37 8 3 r35)) ∧ (x1 = 8 → (rdO M) ∧ ∀ N41 : zM, N41 = numF 0 16 9 2 M → (rdO N41) ∧ ∀ N45 : zM, N45 = numF 0 16 9 3 N41 → q N45) ∧ (x1 < 0 ∨ 8 < x1 → (rdO M) ∧ ∀ (r47 : Int) (N49 : zM), r47 = nmV (M 4) (M 6) 0 9999 (gst M) → N49 = pst M (nmS (M 4) (M 5) (M 6) 0 9999 (gst M)) → q (zu N49 8 4 r47))) : zT g (z1 o) mX4_readRest (zQv (z1 o) q) 0 [(0, zA g 7), (1, zI x1)] [] M := by
  refine zr_iload_n 1 dX4_readRest_0 rfl ?_
  obtain ⟨c1, W⟩ := W
  by_cases e0 : x1 = 0
  · have W := W.1 e0
    refine zr_tin (tgt := 52) dX4_readRest_1 c1 (by omega) (by omega) (by rw [e0]; rfl) (by decide) ?_
    refine zr_aload_n 0 dX4_readRest_52 rfl ?_
    obtain ⟨q2, k6, W⟩ := W
    refine zt_callVv (As := []) (rest := []) dX4_readRest_53 kX4_readRest_89 rfl rfl rfl rfl (Nat.le_of_ble_eq_true rfl) k6 (fun M4 h5 => ?_)
    have W := W M4 h5
    refine zr_goto (tgt := 158) dX4_readRest_56 (by decide) ?_
    exact zt_ret dX4_readRest_158 rfl W
  by_cases e1 : x1 = 1
  · have W := W.2.1 e1
    refine zr_tin (tgt := 59) dX4_readRest_1 c1 (by omega) (by omega) (by rw [e1]; rfl) (by decide) ?_
    refine zr_aload_n 0 dX4_readRest_59 rfl ?_
    refine zr_getr (b := 8) dX4_readRest_60 fX4_12 rfl rfl rfl (by decide) ?_
    refine zr_aload_n 0 dX4_readRest_63 rfl ?_
    refine zr_iconst dX4_readRest_64 ?_
    refine zr_bipush dX4_readRest_65 (by decide) ?_
    obtain ⟨c7, W⟩ := W
    refine zt_callVi (As := [zI 0, zI 9]) (rest := [zA g 8]) dX4_readRest_67 kX4_readRest_92 rfl rfl rfl rfl (Nat.le_of_ble_eq_true rfl) (c_readNumber c7 ⟨by decide, by decide⟩ ⟨by decide, by decide⟩) (fun r8 N10 h9 => ?_)
    have W := W r8 N10 h9.1 h9.2
    refine zt_puti 2 rfl dX4_readRest_70 fX4_96 lcX0 ltX0_2 rfl rfl ?_
    refine zr_goto (tgt := 158) dX4_readRest_73 (by decide) ?_
    exact zt_ret dX4_readRest_158 rfl W
  by_cases e2 : x1 = 2
  · have W := W.2.2.1 e2
    refine zr_tin (tgt := 76) dX4_readRest_1 c1 (by omega) (by omega) (by rw [e2]; rfl) (by decide) ?_
    refine zr_aload_n 0 dX4_readRest_76 rfl ?_
    obtain ⟨q11, k15, W⟩ := W
    refine zt_callVv (As := []) (rest := []) dX4_readRest_77 kX4_readRest_99 rfl rfl rfl rfl (Nat.le_of_ble_eq_true rfl) k15 (fun M13 h14 => ?_)
    have W := W M13 h14
    refine zr_goto (tgt := 158) dX4_readRest_80 (by decide) ?_
    exact zt_ret dX4_readRest_158 rfl W
  by_cases e3 : x1 = 3
  · have W := W.2.2.2.1 e3
    refine zr_tin (tgt := 83) dX4_readRest_1 c1 (by omega) (by omega) (by rw [e3]; rfl) (by decide) ?_
    refine zr_aload_n 0 dX4_readRest_83 rfl ?_
    obtain ⟨q16, k20, W⟩ := W
    refine zt_callVv (As := []) (rest := []) dX4_readRest_84 kX4_readRest_102 rfl rfl rfl rfl (Nat.le_of_ble_eq_true rfl) k20 (fun M18 h19 => ?_)
    have W := W M18 h19
    refine zr_goto (tgt := 158) dX4_readRest_87 (by decide) ?_
    exact zt_ret dX4_readRest_158 rfl W
  by_cases e4 : x1 = 4
  · have W := W.2.2.2.2.1 e4
    refine zr_tin (tgt := 90) dX4_readRest_1 c1 (by omega) (by omega) (by rw [e4]; rfl) (by decide) ?_
    refine zr_aload_n 0 dX4_readRest_90 rfl ?_
    obtain ⟨q21, k25, W⟩ := W
    refine zt_callVv (As := []) (rest := []) dX4_readRest_91 kX4_readRest_105 rfl rfl rfl rfl (Nat.le_of_ble_eq_true rfl) k25 (fun M23 h24 => ?_)
    have W := W M23 h24
    refine zr_goto (tgt := 158) dX4_readRest_94 (by decide) ?_
    exact zt_ret dX4_readRest_158 rfl W
  by_cases e5 : x1 = 5
  · have W := W.2.2.2.2.2.1 e5
    refine zr_tin (tgt := 97) dX4_readRest_1 c1 (by omega) (by omega) (by rw [e5]; rfl) (by decide) ?_
    refine zr_aload_n 0 dX4_readRest_97 rfl ?_
    refine zr_iconst dX4_readRest_98 ?_
    obtain ⟨c26, W⟩ := W
    refine zt_callVv (As := [zI 0]) (rest := []) dX4_readRest_99 kX4_readRest_108 rfl rfl rfl rfl (Nat.le_of_ble_eq_true rfl) (c_readRule0 c26) (fun N29 h28 => ?_)
    have W := W N29 h28
    refine zr_goto (tgt := 158) dX4_readRest_102 (by decide) ?_
    exact zt_ret dX4_readRest_158 rfl W
  by_cases e6 : x1 = 6
  · have W := W.2.2.2.2.2.2.1 e6
    refine zr_tin (tgt := 105) dX4_readRest_1 c1 (by omega) (by omega) (by rw [e6]; rfl) (by decide) ?_
    refine zr_aload_n 0 dX4_readRest_105 rfl ?_
    refine zr_iconst dX4_readRest_106 ?_
    obtain ⟨c30, W⟩ := W
    refine zt_callVv (As := [zI 1]) (rest := []) dX4_readRest_107 kX4_readRest_108 rfl rfl rfl rfl (Nat.le_of_ble_eq_true rfl) (c_readRule1 c30) (fun N33 h32 => ?_)
    have W := W N33 h32
    refine zr_goto (tgt := 158) dX4_readRest_110 (by decide) ?_
    exact zt_ret dX4_readRest_158 rfl W
  by_cases e7 : x1 = 7
  · have W := W.2.2.2.2.2.2.2.1 e7
    refine zr_tin (tgt := 113) dX4_readRest_1 c1 (by omega) (by omega) (by rw [e7]; rfl) (by decide) ?_
    refine zr_aload_n 0 dX4_readRest_113 rfl ?_
    refine zr_getr (b := 8) dX4_readRest_114 fX4_12 rfl rfl rfl (by decide) ?_
    refine zr_aload_n 0 dX4_readRest_117 rfl ?_
    refine zr_iconst dX4_readRest_118 ?_
    refine zr_bipush dX4_readRest_119 (by decide) ?_
    obtain ⟨c34, W⟩ := W
    refine zt_callVi (As := [zI 1, zI 9]) (rest := [zA g 8]) dX4_readRest_121 kX4_readRest_92 rfl rfl rfl rfl (Nat.le_of_ble_eq_true rfl) (c_readNumber c34 ⟨by decide, by decide⟩ ⟨by decide, by decide⟩) (fun r35 N37 h36 => ?_)
    have W := W r35 N37 h36.1 h36.2
    refine zt_puti 3 rfl dX4_readRest_124 fX4_111 lcX0 ltX0_3 rfl rfl ?_
    refine zr_goto (tgt := 158) dX4_readRest_127 (by decide) ?_
    exact zt_ret dX4_readRest_158 rfl W
  by_cases e8 : x1 = 8
  · have W := W.2.2.2.2.2.2.2.2.1 e8
    refine zr_tin (tgt := 130) dX4_readRest_1 c1 (by omega) (by omega) (by rw [e8]; rfl) (by decide) ?_
    refine zr_aload_n 0 dX4_readRest_130 rfl ?_
    refine zr_iconst dX4_readRest_131 ?_
    obtain ⟨c38, W⟩ := W
    refine zt_callVv (As := [zI 2]) (rest := []) dX4_readRest_132 kX4_readRest_108 rfl rfl rfl rfl (Nat.le_of_ble_eq_true rfl) (c_readRule2 c38) (fun N41 h40 => ?_)
    have W := W N41 h40
    refine zr_aload_n 0 dX4_readRest_135 rfl ?_
    refine zr_iconst dX4_readRest_136 ?_
    obtain ⟨c42, W⟩ := W
    refine zt_callVv (As := [zI 3]) (rest := []) dX4_readRest_137 kX4_readRest_108 rfl rfl rfl rfl (Nat.le_of_ble_eq_true rfl) (c_readRule3 c42) (fun N45 h44 => ?_)
    have W := W N45 h44
    refine zr_goto (tgt := 158) dX4_readRest_140 (by decide) ?_
    exact zt_ret dX4_readRest_158 rfl W
  have W := W.2.2.2.2.2.2.2.2.2 (by omega)
  refine zr_tout (tgt := 143) dX4_readRest_1 c1 (by omega) (by decide) ?_
  refine zr_aload_n 0 dX4_readRest_143 rfl ?_
  refine zr_getr (b := 8) dX4_readRest_144 fX4_12 rfl rfl rfl (by decide) ?_
  refine zr_aload_n 0 dX4_readRest_147 rfl ?_
  refine zr_iconst dX4_readRest_148 ?_
  refine zr_sipush dX4_readRest_149 (by decide) ?_
  obtain ⟨c46, W⟩ := W
  refine zt_callVi (As := [zI 0, zI 9999]) (rest := [zA g 8]) dX4_readRest_152 kX4_readRest_92 rfl rfl rfl rfl (Nat.le_of_ble_eq_true rfl) (c_readNumber c46 ⟨by decide, by decide⟩ ⟨by decide, by decide⟩) (fun r47 N49 h48 => ?_)
  have W := W r47 N49 h48.1 h48.2
  refine zt_puti 4 rfl dX4_readRest_155 fX4_114 lcX0 ltX0_4 rfl rfl ?_
  exact zt_ret dX4_readRest_158 rfl W
theorem dX4_readLineWord_0 : decode cX4_readLineWord 0 = .ok (.aload_n 0, 1) := by decide +kernel
theorem dX4_readLineWord_1 : decode cX4_readLineWord 1 = .ok (.invokevirtual 40, 3) := by decide +kernel
theorem dX4_readLineWord_4 : decode cX4_readLineWord 4 = .ok (.iconst 1, 1) := by decide +kernel
theorem dX4_readLineWord_5 : decode cX4_readLineWord 5 = .ok (.if_icmp .ne 10, 3) := by decide +kernel
theorem dX4_readLineWord_8 : decode cX4_readLineWord 8 = .ok (.aload_n 0, 1) := by decide +kernel
theorem dX4_readLineWord_9 : decode cX4_readLineWord 9 = .ok (.invokevirtual 73, 3) := by decide +kernel
theorem dX4_readLineWord_12 : decode cX4_readLineWord 12 = .ok (.goto 4, 3) := by decide +kernel
theorem dX4_readLineWord_15 : decode cX4_readLineWord 15 = .ok (.iconst (-1), 1) := by decide +kernel
theorem dX4_readLineWord_16 : decode cX4_readLineWord 16 = .ok (.istore_n 2, 1) := by decide +kernel
theorem dX4_readLineWord_17 : decode cX4_readLineWord 17 = .ok (.iload_n 2, 1) := by decide +kernel
theorem dX4_readLineWord_18 : decode cX4_readLineWord 18 = .ok (.ifCond .lt 9, 3) := by decide +kernel
theorem dX4_readLineWord_21 : decode cX4_readLineWord 21 = .ok (.iload_n 2, 1) := by decide +kernel
theorem dX4_readLineWord_22 : decode cX4_readLineWord 22 = .ok (.bipush 9, 2) := by decide +kernel
theorem dX4_readLineWord_24 : decode cX4_readLineWord 24 = .ok (.if_icmp .le 10, 3) := by decide +kernel
theorem dX4_readLineWord_27 : decode cX4_readLineWord 27 = .ok (.aload_n 0, 1) := by decide +kernel
theorem dX4_readLineWord_28 : decode cX4_readLineWord 28 = .ok (.invokevirtual 76, 3) := by decide +kernel
theorem dX4_readLineWord_31 : decode cX4_readLineWord 31 = .ok (.goto 77, 3) := by decide +kernel
theorem dX4_readLineWord_34 : decode cX4_readLineWord 34 = .ok (.iload_n 2, 1) := by decide +kernel
theorem dX4_readLineWord_35 : decode cX4_readLineWord 35 = .ok (.ifCond .ne 7, 3) := by decide +kernel
theorem dX4_readLineWord_38 : decode cX4_readLineWord 38 = .ok (.iload_n 1, 1) := by decide +kernel
theorem dX4_readLineWord_39 : decode cX4_readLineWord 39 = .ok (.ifCond .gt 20, 3) := by decide +kernel
theorem dX4_readLineWord_42 : decode cX4_readLineWord 42 = .ok (.iload_n 2, 1) := by decide +kernel
theorem dX4_readLineWord_43 : decode cX4_readLineWord 43 = .ok (.iconst 2, 1) := by decide +kernel
theorem dX4_readLineWord_44 : decode cX4_readLineWord 44 = .ok (.if_icmp .ne 27, 3) := by decide +kernel
theorem dX4_readLineWord_47 : decode cX4_readLineWord 47 = .ok (.aload_n 0, 1) := by decide +kernel
theorem dX4_readLineWord_48 : decode cX4_readLineWord 48 = .ok (.getfield 12, 3) := by decide +kernel
theorem dX4_readLineWord_51 : decode cX4_readLineWord 51 = .ok (.getfield 79, 3) := by decide +kernel
theorem dX4_readLineWord_54 : decode cX4_readLineWord 54 = .ok (.bipush 20, 2) := by decide +kernel
theorem dX4_readLineWord_56 : decode cX4_readLineWord 56 = .ok (.if_icmp .lt 15, 3) := by decide +kernel
theorem dX4_readLineWord_59 : decode cX4_readLineWord 59 = .ok (.aload_n 0, 1) := by decide +kernel
theorem dX4_readLineWord_60 : decode cX4_readLineWord 60 = .ok (.iconst 2, 1) := by decide +kernel
theorem dX4_readLineWord_61 : decode cX4_readLineWord 61 = .ok (.aload_n 0, 1) := by decide +kernel
theorem dX4_readLineWord_62 : decode cX4_readLineWord 62 = .ok (.getfield 25, 3) := by decide +kernel
theorem dX4_readLineWord_65 : decode cX4_readLineWord 65 = .ok (.invokevirtual 69, 3) := by decide +kernel
theorem dX4_readLineWord_68 : decode cX4_readLineWord 68 = .ok (.goto 40, 3) := by decide +kernel
theorem dX4_readLineWord_71 : decode cX4_readLineWord 71 = .ok (.iload_n 2, 1) := by decide +kernel
theorem dX4_readLineWord_72 : decode cX4_readLineWord 72 = .ok (.iconst 2, 1) := by decide +kernel
theorem dX4_readLineWord_73 : decode cX4_readLineWord 73 = .ok (.if_icmp .eq 31, 3) := by decide +kernel
theorem dX4_readLineWord_76 : decode cX4_readLineWord 76 = .ok (.iload_n 2, 1) := by decide +kernel
theorem dX4_readLineWord_77 : decode cX4_readLineWord 77 = .ok (.iconst 3, 1) := by decide +kernel
theorem dX4_readLineWord_78 : decode cX4_readLineWord 78 = .ok (.if_icmp .eq 26, 3) := by decide +kernel
theorem dX4_readLineWord_81 : decode cX4_readLineWord 81 = .ok (.aload_n 0, 1) := by decide +kernel
theorem dX4_readLineWord_82 : decode cX4_readLineWord 82 = .ok (.getfield 12, 3) := by decide +kernel
theorem dX4_readLineWord_85 : decode cX4_readLineWord 85 = .ok (.iload_n 2, 1) := by decide +kernel
theorem dX4_readLineWord_86 : decode cX4_readLineWord 86 = .ok (.invokevirtual 82, 3) := by decide +kernel
theorem dX4_readLineWord_89 : decode cX4_readLineWord 89 = .ok (.ifCond .eq 15, 3) := by decide +kernel
theorem dX4_readLineWord_92 : decode cX4_readLineWord 92 = .ok (.aload_n 0, 1) := by decide +kernel
theorem dX4_readLineWord_93 : decode cX4_readLineWord 93 = .ok (.iconst 3, 1) := by decide +kernel
theorem dX4_readLineWord_94 : decode cX4_readLineWord 94 = .ok (.aload_n 0, 1) := by decide +kernel
theorem dX4_readLineWord_95 : decode cX4_readLineWord 95 = .ok (.getfield 25, 3) := by decide +kernel
theorem dX4_readLineWord_98 : decode cX4_readLineWord 98 = .ok (.invokevirtual 69, 3) := by decide +kernel
theorem dX4_readLineWord_101 : decode cX4_readLineWord 101 = .ok (.goto 7, 3) := by decide +kernel
theorem dX4_readLineWord_104 : decode cX4_readLineWord 104 = .ok (.aload_n 0, 1) := by decide +kernel
theorem dX4_readLineWord_105 : decode cX4_readLineWord 105 = .ok (.invokevirtual 86, 3) := by decide +kernel
theorem dX4_readLineWord_108 : decode cX4_readLineWord 108 = .ok (.iload_n 2, 1) := by decide +kernel
theorem dX4_readLineWord_109 : decode cX4_readLineWord 109 = .ok (.ireturn, 1) := by decide +kernel
set_option maxRecDepth 100000 in
theorem SX4_readLineWord_0 {g : zG} {o : Bool} {M : zM} {q : Int → zM → Prop} {x1 : Int} (W : (0 ≤ M 7 4 ∧ M 7 4 < 901) ∧ (-2147483648 ≤ (M 4 (M 7 4)) ∧ (M 4 (M 7 4)) ≤ 2147483647) ∧ (((M 4 (M 7 4)) ≠ 1) → (rdO M) ∧ ∀ N9 : zM, N9 = pst M (rtS (M 4) (M 5) (gst M)) → q (-1) N9) ∧ (((M 4 (M 7 4)) = 1) → (-2147483648 ≤ (M 6 (M 7 4)) ∧ (M 6 (M 7 4)) ≤ 2147483647) ∧ (((M 6 (M 7 4)) < 0) → (rdO M) ∧ ∀ N17 : zM, N17 = pst M (rtS (M 4) (M 5) (gst M)) → q (M 6 (M 7 4)) N17) ∧ ((¬ ((M 6 (M 7 4)) < 0)) → (((M 6 (M 7 4)) ≤ 9) → (((M 6 (M 7 4)) ≠ 0) → (((M 6 (M 7 4)) ≠ 2) → zT g (z1 o) mX4_readLineWord (zQi (z1 o) q) 71 [(0, zA g 7), (2, zI (M 6 (M 7 4)))] [] M) ∧ (((M 6 (M 7 4)) = 2) → (-2147483648 ≤ (M 8 5) ∧ (M 8 5) ≤ 2147483647) ∧ (((M 8 5) < 20) → zT g (z1 o) mX4_readLineWord (zQi (z1 o) q) 71 [(0, zA g 7), (2, zI (M 6 (M 7 4)))] [] M) ∧ ((¬ ((M 8 5) < 20)) → (rdO M) ∧ (0 ≤ (M 7 4) ∧ (M 7 4) < 901) ∧ ∀ N23 : zM, N23 = pst M (rfS (M 5) 2 (M 7 4) (gst M)) → q (M 6 (M 7 4)) N23))) ∧ (((M 6 (M 7 4)) = 0) → (-2147483648 ≤ x1 ∧ x1 ≤ 2147483647) ∧ ((0 < x1) → (rdO M) ∧ (0 ≤ (M 7 4) ∧ (M 7 4) < 901) ∧ ∀ N29 : zM, N29 = pst M (rfS (M 5) 2 (M 7 4) (gst M)) → q (M 6 (M 7 4)) N29) ∧ ((¬ (0 < x1)) → (((M 6 (M 7 4)) ≠ 2) → zT g (z1 o) mX4_readLineWord (zQi (z1 o) q) 71 [(0, zA g 7), (2, zI (M 6 (M 7 4)))] [] M) ∧ (((M 6 (M 7 4)) = 2) → (-2147483648 ≤ (M 8 5) ∧ (M 8 5) ≤ 2147483647) ∧ (((M 8 5) < 20) → zT g (z1 o) mX4_readLineWord (zQi (z1 o) q) 71 [(0, zA g 7), (2, zI (M 6 (M 7 4)))] [] M) ∧ ((¬ ((M 8 5) < 20)) → (rdO M) ∧ (0 ≤ (M 7 4) ∧ (M 7 4) < 901) ∧ ∀ N35 : zM, N35 = pst M (rfS (M 5) 2 (M 7 4) (gst M)) → q (M 6 (M 7 4)) N35))))) ∧ ((¬ ((M 6 (M 7 4)) ≤ 9)) → (rdO M) ∧ ∀ N39 : zM, N39 = pst M (rtS (M 4) (M 5) (gst M)) → q (M 6 (M 7 4)) N39)))) : zT g (z1 o) mX4_readLineWord (zQi (z1 o) q) 0 [(0, zA g 7), (1, zI x1)] [] M := by
  refine zr_aload_n 0 dX4_readLineWord_0 rfl ?_
  obtain ⟨c1, W⟩ := W
  refine zt_callVi (As := []) (rest := []) dX4_readLineWord_1 kX4_readLineWord_40 rfl rfl rfl rfl (Nat.le_of_ble_eq_true rfl) (c_kind c1) (fun r2 N4 h3 => ?_)
  rw [h3.1, h3.2]
  refine zr_iconst dX4_readLineWord_4 ?_
  obtain ⟨c5, W⟩ := W
  refine zr_icmp_ne (tgt := 15) dX4_readLineWord_5 (by decide) c5 ⟨by decide, by decide⟩ (fun h => ?_) (fun h => ?_)
  · have W := W.1 h
    refine zr_iconst dX4_readLineWord_15 ?_
    refine zr_istore_n (l' := [(0, zA g 7), (1, zI x1), (2, zI (-1))]) dX4_readLineWord_16 (by decide) [1, 2, 0] rfl ?_
    refine zr_iload_n 2 dX4_readLineWord_17 rfl ?_
    refine zr_if_lt (tgt := 27) dX4_readLineWord_18 (by decide) ⟨by decide, by decide⟩ (fun h => ?_) (fun h => ?_)
    · skip
      refine zr_aload_n 0 dX4_readLineWord_27 rfl ?_
      obtain ⟨c6, W⟩ := W
      refine zt_callVv (As := []) (rest := []) dX4_readLineWord_28 kX4_readLineWord_76 rfl rfl rfl rfl (Nat.le_of_ble_eq_true rfl) (c_refuseToken c6) (fun N9 h8 => ?_)
      have W := W N9 h8
      refine zr_goto (tgt := 108) dX4_readLineWord_31 (by decide) ?_
      refine zr_iload_n 2 dX4_readLineWord_108 rfl ?_
      exact zt_iret dX4_readLineWord_109 rfl W
    · exact absurd h (by decide)
  · have W := W.2 h
    refine zr_aload_n 0 dX4_readLineWord_8 rfl ?_
    refine zt_callVi (As := []) (rest := []) dX4_readLineWord_9 kX4_readLineWord_73 rfl rfl rfl rfl (Nat.le_of_ble_eq_true rfl) (c_value c1) (fun r10 N12 h11 => ?_)
    rw [h11.1, h11.2]
    refine zr_goto (tgt := 16) dX4_readLineWord_12 (by decide) ?_
    refine zr_istore_n (l' := [(0, zA g 7), (1, zI x1), (2, zI (M 6 (M 7 4)))]) dX4_readLineWord_16 (by decide) [1, 2, 0] rfl ?_
    refine zr_iload_n 2 dX4_readLineWord_17 rfl ?_
    obtain ⟨c13, W⟩ := W
    refine zr_if_lt (tgt := 27) dX4_readLineWord_18 (by decide) c13 (fun h => ?_) (fun h => ?_)
    · have W := W.1 h
      refine zr_aload_n 0 dX4_readLineWord_27 rfl ?_
      obtain ⟨c14, W⟩ := W
      refine zt_callVv (As := []) (rest := []) dX4_readLineWord_28 kX4_readLineWord_76 rfl rfl rfl rfl (Nat.le_of_ble_eq_true rfl) (c_refuseToken c14) (fun N17 h16 => ?_)
      have W := W N17 h16
      refine zr_goto (tgt := 108) dX4_readLineWord_31 (by decide) ?_
      refine zr_iload_n 2 dX4_readLineWord_108 rfl ?_
      exact zt_iret dX4_readLineWord_109 rfl W
    · have W := W.2 h
      refine zr_iload_n 2 dX4_readLineWord_21 rfl ?_
      refine zr_bipush dX4_readLineWord_22 (by decide) ?_
      refine zr_icmp_le (tgt := 34) dX4_readLineWord_24 (by decide) c13 ⟨by decide, by decide⟩ (fun h => ?_) (fun h => ?_)
      · have W := W.1 h
        refine zr_iload_n 2 dX4_readLineWord_34 rfl ?_
        refine zr_if_ne (tgt := 42) dX4_readLineWord_35 (by decide) c13 (fun h => ?_) (fun h => ?_)
        · have W := W.1 h
          refine zr_iload_n 2 dX4_readLineWord_42 rfl ?_
          refine zr_iconst dX4_readLineWord_43 ?_
          refine zr_icmp_ne (tgt := 71) dX4_readLineWord_44 (by decide) c13 ⟨by decide, by decide⟩ (fun h => ?_) (fun h => ?_)
          · have W := W.1 h
            exact zr_sub [0, 2] rfl W
          · have W := W.2 h
            refine zr_aload_n 0 dX4_readLineWord_47 rfl ?_
            refine zr_getr (b := 8) dX4_readLineWord_48 fX4_12 rfl rfl rfl (by decide) ?_
            refine zt_geti 5 rfl dX4_readLineWord_51 fX4_79 rfl (by decide) ?_
            refine zr_bipush dX4_readLineWord_54 (by decide) ?_
            obtain ⟨c18, W⟩ := W
            refine zr_icmp_lt (tgt := 71) dX4_readLineWord_56 (by decide) c18 ⟨by decide, by decide⟩ (fun h => ?_) (fun h => ?_)
            · have W := W.1 h
              exact zr_sub [0, 2] rfl W
            · have W := W.2 h
              refine zr_aload_n 0 dX4_readLineWord_59 rfl ?_
              refine zr_iconst dX4_readLineWord_60 ?_
              refine zr_aload_n 0 dX4_readLineWord_61 rfl ?_
              refine zt_geti 4 rfl dX4_readLineWord_62 fX4_25 rfl (by decide) ?_
              obtain ⟨c19, W⟩ := W
              obtain ⟨c20, W⟩ := W
              refine zt_callVv (As := [zI 2, zI (M 7 4)]) (rest := []) dX4_readLineWord_65 kX4_readLineWord_69 rfl rfl rfl rfl (Nat.le_of_ble_eq_true rfl) (c_refuse c19 c20) (fun N23 h22 => ?_)
              have W := W N23 h22
              refine zr_goto (tgt := 108) dX4_readLineWord_68 (by decide) ?_
              refine zr_iload_n 2 dX4_readLineWord_108 rfl ?_
              exact zt_iret dX4_readLineWord_109 rfl W
        · have W := W.2 h
          refine zr_iload_n 1 dX4_readLineWord_38 rfl ?_
          obtain ⟨c24, W⟩ := W
          refine zr_if_gt (tgt := 59) dX4_readLineWord_39 (by decide) c24 (fun h => ?_) (fun h => ?_)
          · have W := W.1 h
            refine zr_aload_n 0 dX4_readLineWord_59 rfl ?_
            refine zr_iconst dX4_readLineWord_60 ?_
            refine zr_aload_n 0 dX4_readLineWord_61 rfl ?_
            refine zt_geti 4 rfl dX4_readLineWord_62 fX4_25 rfl (by decide) ?_
            obtain ⟨c25, W⟩ := W
            obtain ⟨c26, W⟩ := W
            refine zt_callVv (As := [zI 2, zI (M 7 4)]) (rest := []) dX4_readLineWord_65 kX4_readLineWord_69 rfl rfl rfl rfl (Nat.le_of_ble_eq_true rfl) (c_refuse c25 c26) (fun N29 h28 => ?_)
            have W := W N29 h28
            refine zr_goto (tgt := 108) dX4_readLineWord_68 (by decide) ?_
            refine zr_iload_n 2 dX4_readLineWord_108 rfl ?_
            exact zt_iret dX4_readLineWord_109 rfl W
          · have W := W.2 h
            refine zr_iload_n 2 dX4_readLineWord_42 rfl ?_
            refine zr_iconst dX4_readLineWord_43 ?_
            refine zr_icmp_ne (tgt := 71) dX4_readLineWord_44 (by decide) c13 ⟨by decide, by decide⟩ (fun h => ?_) (fun h => ?_)
            · have W := W.1 h
              exact zr_sub [0, 2] rfl W
            · have W := W.2 h
              refine zr_aload_n 0 dX4_readLineWord_47 rfl ?_
              refine zr_getr (b := 8) dX4_readLineWord_48 fX4_12 rfl rfl rfl (by decide) ?_
              refine zt_geti 5 rfl dX4_readLineWord_51 fX4_79 rfl (by decide) ?_
              refine zr_bipush dX4_readLineWord_54 (by decide) ?_
              obtain ⟨c30, W⟩ := W
              refine zr_icmp_lt (tgt := 71) dX4_readLineWord_56 (by decide) c30 ⟨by decide, by decide⟩ (fun h => ?_) (fun h => ?_)
              · have W := W.1 h
                exact zr_sub [0, 2] rfl W
              · have W := W.2 h
                refine zr_aload_n 0 dX4_readLineWord_59 rfl ?_
                refine zr_iconst dX4_readLineWord_60 ?_
                refine zr_aload_n 0 dX4_readLineWord_61 rfl ?_
                refine zt_geti 4 rfl dX4_readLineWord_62 fX4_25 rfl (by decide) ?_
                obtain ⟨c31, W⟩ := W
                obtain ⟨c32, W⟩ := W
                refine zt_callVv (As := [zI 2, zI (M 7 4)]) (rest := []) dX4_readLineWord_65 kX4_readLineWord_69 rfl rfl rfl rfl (Nat.le_of_ble_eq_true rfl) (c_refuse c31 c32) (fun N35 h34 => ?_)
                have W := W N35 h34
                refine zr_goto (tgt := 108) dX4_readLineWord_68 (by decide) ?_
                refine zr_iload_n 2 dX4_readLineWord_108 rfl ?_
                exact zt_iret dX4_readLineWord_109 rfl W
      · have W := W.2 h
        refine zr_aload_n 0 dX4_readLineWord_27 rfl ?_
        obtain ⟨c36, W⟩ := W
        refine zt_callVv (As := []) (rest := []) dX4_readLineWord_28 kX4_readLineWord_76 rfl rfl rfl rfl (Nat.le_of_ble_eq_true rfl) (c_refuseToken c36) (fun N39 h38 => ?_)
        have W := W N39 h38
        refine zr_goto (tgt := 108) dX4_readLineWord_31 (by decide) ?_
        refine zr_iload_n 2 dX4_readLineWord_108 rfl ?_
        exact zt_iret dX4_readLineWord_109 rfl W
set_option maxRecDepth 100000 in
theorem SX4_readLineWord_71 {g : zG} {o : Bool} {M : zM} {q : Int → zM → Prop} {x2 : Int} (W : (-2147483648 ≤ x2 ∧ x2 ≤ 2147483647) ∧ ((x2 = 2) → (rdO M) ∧ ∀ N5 : zM, N5 = pst M (adS (M 4) (gst M)) → q x2 N5) ∧ ((¬ (x2 = 2)) → ((x2 = 3) → (rdO M) ∧ ∀ N9 : zM, N9 = pst M (adS (M 4) (gst M)) → q x2 N9) ∧ ((¬ (x2 = 3)) → (0 ≤ x2 ∧ x2 ≤ 9) ∧ (0 ≤ M 8 7 ∧ M 8 7 < 1024) ∧ ((¬ (bt (M 8 7) x2)) → (rdO M) ∧ ∀ N18 : zM, N18 = pst M (adS (M 4) (gst M)) → q x2 N18) ∧ ((bt (M 8 7) x2) → (rdO M) ∧ (0 ≤ (M 7 4) ∧ (M 7 4) < 901) ∧ ∀ N23 : zM, N23 = pst M (rfS (M 5) 3 (M 7 4) (gst M)) → q x2 N23)))) : zT g (z1 o) mX4_readLineWord (zQi (z1 o) q) 71 [(0, zA g 7), (2, zI x2)] [] M := by
  refine zr_iload_n 1 dX4_readLineWord_71 rfl ?_
  refine zr_iconst dX4_readLineWord_72 ?_
  obtain ⟨c1, W⟩ := W
  refine zr_icmp_eq (tgt := 104) dX4_readLineWord_73 (by decide) c1 ⟨by decide, by decide⟩ (fun h => ?_) (fun h => ?_)
  · have W := W.1 h
    refine zr_aload_n 0 dX4_readLineWord_104 rfl ?_
    obtain ⟨c2, W⟩ := W
    refine zt_callVv (As := []) (rest := []) dX4_readLineWord_105 kX4_readLineWord_86 rfl rfl rfl rfl (Nat.le_of_ble_eq_true rfl) (c_advance c2) (fun N5 h4 => ?_)
    have W := W N5 h4
    refine zr_iload_n 1 dX4_readLineWord_108 rfl ?_
    exact zt_iret dX4_readLineWord_109 rfl W
  · have W := W.2 h
    refine zr_iload_n 1 dX4_readLineWord_76 rfl ?_
    refine zr_iconst dX4_readLineWord_77 ?_
    refine zr_icmp_eq (tgt := 104) dX4_readLineWord_78 (by decide) c1 ⟨by decide, by decide⟩ (fun h => ?_) (fun h => ?_)
    · have W := W.1 h
      refine zr_aload_n 0 dX4_readLineWord_104 rfl ?_
      obtain ⟨c6, W⟩ := W
      refine zt_callVv (As := []) (rest := []) dX4_readLineWord_105 kX4_readLineWord_86 rfl rfl rfl rfl (Nat.le_of_ble_eq_true rfl) (c_advance c6) (fun N9 h8 => ?_)
      have W := W N9 h8
      refine zr_iload_n 1 dX4_readLineWord_108 rfl ?_
      exact zt_iret dX4_readLineWord_109 rfl W
    · have W := W.2 h
      refine zr_aload_n 0 dX4_readLineWord_81 rfl ?_
      refine zr_getr (b := 8) dX4_readLineWord_82 fX4_12 rfl rfl rfl (by decide) ?_
      refine zr_iload_n 1 dX4_readLineWord_85 rfl ?_
      obtain ⟨c10, W⟩ := W
      obtain ⟨c11, W⟩ := W
      refine zt_callVi (As := [zI x2]) (rest := []) dX4_readLineWord_86 kX4_readLineWord_82 rfl rfl rfl rfl (Nat.le_of_ble_eq_true rfl) (c_isTold c10 c11) (fun r12 N14 h13 => ?_)
      rw [h13.1, h13.2]
      refine zt_ifeq_b (tgt := 104) dX4_readLineWord_89 (by decide) (fun h => ?_) (fun h => ?_)
      · have W := W.1 h
        refine zr_aload_n 0 dX4_readLineWord_104 rfl ?_
        obtain ⟨c15, W⟩ := W
        refine zt_callVv (As := []) (rest := []) dX4_readLineWord_105 kX4_readLineWord_86 rfl rfl rfl rfl (Nat.le_of_ble_eq_true rfl) (c_advance c15) (fun N18 h17 => ?_)
        have W := W N18 h17
        refine zr_iload_n 1 dX4_readLineWord_108 rfl ?_
        exact zt_iret dX4_readLineWord_109 rfl W
      · have W := W.2 h
        refine zr_aload_n 0 dX4_readLineWord_92 rfl ?_
        refine zr_iconst dX4_readLineWord_93 ?_
        refine zr_aload_n 0 dX4_readLineWord_94 rfl ?_
        refine zt_geti 4 rfl dX4_readLineWord_95 fX4_25 rfl (by decide) ?_
        obtain ⟨c19, W⟩ := W
        obtain ⟨c20, W⟩ := W
        refine zt_callVv (As := [zI 3, zI (M 7 4)]) (rest := []) dX4_readLineWord_98 kX4_readLineWord_69 rfl rfl rfl rfl (Nat.le_of_ble_eq_true rfl) (c_refuse c19 c20) (fun N23 h22 => ?_)
        have W := W N23 h22
        refine zr_goto (tgt := 108) dX4_readLineWord_101 (by decide) ?_
        refine zr_iload_n 1 dX4_readLineWord_108 rfl ?_
        exact zt_iret dX4_readLineWord_109 rfl W
theorem dX4_read_0 : decode cX4_read 0 = .ok (.aload_n 0, 1) := by decide +kernel
theorem dX4_read_1 : decode cX4_read 1 = .ok (.getfield 12, 3) := by decide +kernel
theorem dX4_read_4 : decode cX4_read 4 = .ok (.invokevirtual 32, 3) := by decide +kernel
theorem dX4_read_7 : decode cX4_read 7 = .ok (.aload_n 0, 1) := by decide +kernel
theorem dX4_read_8 : decode cX4_read 8 = .ok (.iconst 0, 1) := by decide +kernel
theorem dX4_read_9 : decode cX4_read 9 = .ok (.putfield 18, 3) := by decide +kernel
theorem dX4_read_12 : decode cX4_read 12 = .ok (.aload_n 0, 1) := by decide +kernel
theorem dX4_read_13 : decode cX4_read 13 = .ok (.iconst (-1), 1) := by decide +kernel
theorem dX4_read_14 : decode cX4_read 14 = .ok (.putfield 22, 3) := by decide +kernel
theorem dX4_read_17 : decode cX4_read 17 = .ok (.aload_n 0, 1) := by decide +kernel
theorem dX4_read_18 : decode cX4_read 18 = .ok (.iconst 0, 1) := by decide +kernel
theorem dX4_read_19 : decode cX4_read 19 = .ok (.putfield 25, 3) := by decide +kernel
theorem dX4_read_22 : decode cX4_read 22 = .ok (.aload_n 0, 1) := by decide +kernel
theorem dX4_read_23 : decode cX4_read 23 = .ok (.getfield 28, 3) := by decide +kernel
theorem dX4_read_26 : decode cX4_read 26 = .ok (.invokevirtual 35, 3) := by decide +kernel
theorem dX4_read_29 : decode cX4_read 29 = .ok (.iconst 0, 1) := by decide +kernel
theorem dX4_read_30 : decode cX4_read 30 = .ok (.istore_n 1, 1) := by decide +kernel
theorem dX4_read_31 : decode cX4_read 31 = .ok (.iload_n 1, 1) := by decide +kernel
theorem dX4_read_32 : decode cX4_read 32 = .ok (.sipush 900, 3) := by decide +kernel
theorem dX4_read_35 : decode cX4_read 35 = .ok (.if_icmp .gt 66, 3) := by decide +kernel
theorem dX4_read_38 : decode cX4_read 38 = .ok (.aload_n 0, 1) := by decide +kernel
theorem dX4_read_39 : decode cX4_read 39 = .ok (.getfield 18, 3) := by decide +kernel
theorem dX4_read_42 : decode cX4_read 42 = .ok (.ifCond .ne 59, 3) := by decide +kernel
theorem dX4_read_45 : decode cX4_read 45 = .ok (.aload_n 0, 1) := by decide +kernel
theorem dX4_read_46 : decode cX4_read 46 = .ok (.invokevirtual 40, 3) := by decide +kernel
theorem dX4_read_49 : decode cX4_read 49 = .ok (.ifCond .eq 52, 3) := by decide +kernel
theorem dX4_read_52 : decode cX4_read 52 = .ok (.aload_n 0, 1) := by decide +kernel
theorem dX4_read_53 : decode cX4_read 53 = .ok (.iload_n 1, 1) := by decide +kernel
theorem dX4_read_54 : decode cX4_read 54 = .ok (.invokevirtual 44, 3) := by decide +kernel
theorem dX4_read_57 : decode cX4_read 57 = .ok (.istore_n 2, 1) := by decide +kernel
theorem dX4_read_58 : decode cX4_read 58 = .ok (.aload_n 0, 1) := by decide +kernel
theorem dX4_read_59 : decode cX4_read 59 = .ok (.getfield 18, 3) := by decide +kernel
theorem dX4_read_62 : decode cX4_read 62 = .ok (.ifCond .ne 33, 3) := by decide +kernel
theorem dX4_read_65 : decode cX4_read 65 = .ok (.aload_n 0, 1) := by decide +kernel
theorem dX4_read_66 : decode cX4_read 66 = .ok (.getfield 12, 3) := by decide +kernel
theorem dX4_read_69 : decode cX4_read 69 = .ok (.iload_n 2, 1) := by decide +kernel
theorem dX4_read_70 : decode cX4_read 70 = .ok (.invokevirtual 48, 3) := by decide +kernel
theorem dX4_read_73 : decode cX4_read 73 = .ok (.aload_n 0, 1) := by decide +kernel
theorem dX4_read_74 : decode cX4_read 74 = .ok (.iload_n 2, 1) := by decide +kernel
theorem dX4_read_75 : decode cX4_read 75 = .ok (.invokevirtual 52, 3) := by decide +kernel
theorem dX4_read_78 : decode cX4_read 78 = .ok (.aload_n 0, 1) := by decide +kernel
theorem dX4_read_79 : decode cX4_read 79 = .ok (.aload_n 0, 1) := by decide +kernel
theorem dX4_read_80 : decode cX4_read 80 = .ok (.invokevirtual 40, 3) := by decide +kernel
theorem dX4_read_83 : decode cX4_read 83 = .ok (.iconst 3, 1) := by decide +kernel
theorem dX4_read_84 : decode cX4_read 84 = .ok (.if_icmp .ne 7, 3) := by decide +kernel
theorem dX4_read_87 : decode cX4_read 87 = .ok (.iconst 1, 1) := by decide +kernel
theorem dX4_read_88 : decode cX4_read 88 = .ok (.goto 4, 3) := by decide +kernel
theorem dX4_read_91 : decode cX4_read 91 = .ok (.iconst 0, 1) := by decide +kernel
theorem dX4_read_92 : decode cX4_read 92 = .ok (.invokevirtual 55, 3) := by decide +kernel
theorem dX4_read_95 : decode cX4_read 95 = .ok (.iinc 1 1, 3) := by decide +kernel
theorem dX4_read_98 : decode cX4_read 98 = .ok (.goto (-67), 3) := by decide +kernel
theorem dX4_read_101 : decode cX4_read 101 = .ok (.aload_n 0, 1) := by decide +kernel
theorem dX4_read_102 : decode cX4_read 102 = .ok (.getfield 18, 3) := by decide +kernel
theorem dX4_read_105 : decode cX4_read 105 = .ok (.ifCond .ne 7, 3) := by decide +kernel
theorem dX4_read_108 : decode cX4_read 108 = .ok (.iconst 1, 1) := by decide +kernel
theorem dX4_read_109 : decode cX4_read 109 = .ok (.goto 4, 3) := by decide +kernel
theorem dX4_read_112 : decode cX4_read 112 = .ok (.iconst 0, 1) := by decide +kernel
theorem dX4_read_113 : decode cX4_read 113 = .ok (.ireturn, 1) := by decide +kernel
set_option maxRecDepth 100000 in
theorem SX4_read_0 {g : zG} {o : Bool} {M : zM} {q : Int → zM → Prop} (W : ∃ q1 : zM → Prop, zKv g (z1 o) mX0_clear [zA g 8] M q1 ∧ ∀ M3 : zM, q1 M3 → ∀ N6 : zM, N6 = zu M3 7 2 0 → ∀ N8 : zM, N8 = zu N6 7 3 (-1) → ∃ q10 : zM → Prop, zKv g (z1 o) mX8_scan [zA g 2] (zu N8 7 4 0) q10 ∧ ∀ M12 : zM, q10 M12 → zT g (z1 o) mX4_read (zQi (z1 o) q) 31 [(0, zA g 7), (1, zI 0)] [] M12) : zT g (z1 o) mX4_read (zQi (z1 o) q) 0 [(0, zA g 7)] [] M := by
  refine zr_aload_n 0 dX4_read_0 rfl ?_
  refine zr_getr (b := 8) dX4_read_1 fX4_12 rfl rfl rfl (by decide) ?_
  obtain ⟨q1, k5, W⟩ := W
  refine zt_callVv (As := []) (rest := []) dX4_read_4 kX4_read_32 rfl rfl rfl rfl (Nat.le_of_ble_eq_true rfl) k5 (fun M3 h4 => ?_)
  have W := W M3 h4
  refine zr_aload_n 0 dX4_read_7 rfl ?_
  refine zr_iconst dX4_read_8 ?_
  refine zt_puti 2 rfl dX4_read_9 fX4_18 lcX4 ltX4_2 rfl rfl ?_
  refine zr_aload_n 0 dX4_read_12 rfl ?_
  refine zr_iconst dX4_read_13 ?_
  obtain ⟨N6, e7⟩ : ∃ N : zM, N = zu M3 7 2 0 := ⟨_, rfl⟩
  rw [← e7]
  have W := W N6 e7
  refine zt_puti 3 rfl dX4_read_14 fX4_22 lcX4 ltX4_3 rfl rfl ?_
  refine zr_aload_n 0 dX4_read_17 rfl ?_
  refine zr_iconst dX4_read_18 ?_
  obtain ⟨N8, e9⟩ : ∃ N : zM, N = zu N6 7 3 (-1) := ⟨_, rfl⟩
  rw [← e9]
  have W := W N8 e9
  refine zt_puti 4 rfl dX4_read_19 fX4_25 lcX4 ltX4_4 rfl rfl ?_
  refine zr_aload_n 0 dX4_read_22 rfl ?_
  refine zr_getr (b := 2) dX4_read_23 fX4_28 rfl rfl rfl (by decide) ?_
  obtain ⟨q10, k14, W⟩ := W
  refine zt_callVv (As := []) (rest := []) dX4_read_26 kX4_read_35 rfl rfl rfl rfl (Nat.le_of_ble_eq_true rfl) k14 (fun M12 h13 => ?_)
  have W := W M12 h13
  refine zr_iconst dX4_read_29 ?_
  refine zr_istore_n (l' := [(0, zA g 7), (1, zI 0)]) dX4_read_30 (by decide) [1, 0] rfl ?_
  exact W
set_option maxRecDepth 100000 in
theorem SX4_read_31 {g : zG} {o : Bool} {M : zM} {q : Int → zM → Prop} {x1 : Int} (W : (-2147483648 ≤ x1 ∧ x1 ≤ 2147483647) ∧ ((900 < x1) → (-2147483648 ≤ (M 7 2) ∧ (M 7 2) ≤ 2147483647) ∧ (((M 7 2) ≠ 0) → q 0 M) ∧ (((M 7 2) = 0) → q 1 M)) ∧ ((¬ (900 < x1)) → (-2147483648 ≤ (M 7 2) ∧ (M 7 2) ≤ 2147483647) ∧ (((M 7 2) ≠ 0) → (((M 7 2) ≠ 0) → q 0 M) ∧ (((M 7 2) = 0) → q 1 M)) ∧ (((M 7 2) = 0) → (0 ≤ M 7 4 ∧ M 7 4 < 901) ∧ (-2147483648 ≤ (M 4 (M 7 4)) ∧ (M 4 (M 7 4)) ≤ 2147483647) ∧ (((M 4 (M 7 4)) = 0) → (((M 7 2) ≠ 0) → q 0 M) ∧ (((M 7 2) = 0) → q 1 M)) ∧ ((¬ ((M 4 (M 7 4)) = 0)) → ∃ q9 : Int → zM → Prop, zKi g (z1 o) mX4_readLineWord [zA g 7, zI x1] M q9 ∧ ∀ (r10 : Int) (M11 : zM), q9 r10 M11 → (-2147483648 ≤ (M11 7 2) ∧ (M11 7 2) ≤ 2147483647) ∧ (((M11 7 2) ≠ 0) → zT g (z1 o) mX4_read (zQi (z1 o) q) 31 [(0, zA g 7), (1, zI (x1 + 1))] [] M11) ∧ (((M11 7 2) = 0) → (0 ≤ r10 ∧ r10 ≤ 9) ∧ (0 ≤ M11 8 7 ∧ M11 8 7 < 1024) ∧ ∀ N19 : zM, N19 = zu M11 8 7 (sbt (M11 8 7) r10) → ∃ q20 : zM → Prop, zKv g (z1 o) mX4_readRest [zA g 7, zI r10] N19 q20 ∧ ∀ M22 : zM, q20 M22 → (0 ≤ M22 7 4 ∧ M22 7 4 < 901) ∧ (-2147483648 ≤ (M22 4 (M22 7 4)) ∧ (M22 4 (M22 7 4)) ≤ 2147483647) ∧ (((M22 4 (M22 7 4)) ≠ 3) → (rdO M22) ∧ ∀ N33 : zM, N33 = pst M22 (xpS (M22 4) (M22 5) 0 (gst M22)) → zT g (z1 o) mX4_read (zQi (z1 o) q) 31 [(0, zA g 7), (1, zI (x1 + 1))] [] N33) ∧ (((M22 4 (M22 7 4)) = 3) → (rdO M22) ∧ ∀ N37 : zM, N37 = pst M22 (xpS (M22 4) (M22 5) 1 (gst M22)) → zT g (z1 o) mX4_read (zQi (z1 o) q) 31 [(0, zA g 7), (1, zI (x1 + 1))] [] N37)))))) : zT g (z1 o) mX4_read (zQi (z1 o) q) 31 [(0, zA g 7), (1, zI x1)] [] M := by
  refine zr_iload_n 1 dX4_read_31 rfl ?_
  refine zr_sipush dX4_read_32 (by decide) ?_
  obtain ⟨c1, W⟩ := W
  refine zr_icmp_gt (tgt := 101) dX4_read_35 (by decide) c1 ⟨by decide, by decide⟩ (fun h => ?_) (fun h => ?_)
  · have W := W.1 h
    refine zr_aload_n 0 dX4_read_101 rfl ?_
    refine zt_geti 2 rfl dX4_read_102 fX4_18 rfl (by decide) ?_
    obtain ⟨c2, W⟩ := W
    refine zr_if_ne (tgt := 112) dX4_read_105 (by decide) c2 (fun h => ?_) (fun h => ?_)
    · have W := W.1 h
      refine zr_iconst dX4_read_112 ?_
      exact zt_zret dX4_read_113 rfl (by decide) W
    · have W := W.2 h
      refine zr_iconst dX4_read_108 ?_
      refine zr_goto (tgt := 113) dX4_read_109 (by decide) ?_
      exact zt_zret dX4_read_113 rfl (by decide) W
  · have W := W.2 h
    refine zr_aload_n 0 dX4_read_38 rfl ?_
    refine zt_geti 2 rfl dX4_read_39 fX4_18 rfl (by decide) ?_
    obtain ⟨c3, W⟩ := W
    refine zr_if_ne (tgt := 101) dX4_read_42 (by decide) c3 (fun h => ?_) (fun h => ?_)
    · have W := W.1 h
      refine zr_aload_n 0 dX4_read_101 rfl ?_
      refine zt_geti 2 rfl dX4_read_102 fX4_18 rfl (by decide) ?_
      refine zr_if_ne (tgt := 112) dX4_read_105 (by decide) c3 (fun h => ?_) (fun h => ?_)
      · have W := W.1 h
        refine zr_iconst dX4_read_112 ?_
        exact zt_zret dX4_read_113 rfl (by decide) W
      · have W := W.2 h
        refine zr_iconst dX4_read_108 ?_
        refine zr_goto (tgt := 113) dX4_read_109 (by decide) ?_
        exact zt_zret dX4_read_113 rfl (by decide) W
    · have W := W.2 h
      refine zr_aload_n 0 dX4_read_45 rfl ?_
      obtain ⟨c4, W⟩ := W
      refine zt_callVi (As := []) (rest := []) dX4_read_46 kX4_read_40 rfl rfl rfl rfl (Nat.le_of_ble_eq_true rfl) (c_kind c4) (fun r5 N7 h6 => ?_)
      rw [h6.1, h6.2]
      obtain ⟨c8, W⟩ := W
      refine zr_if_eq (tgt := 101) dX4_read_49 (by decide) c8 (fun h => ?_) (fun h => ?_)
      · have W := W.1 h
        refine zr_aload_n 0 dX4_read_101 rfl ?_
        refine zt_geti 2 rfl dX4_read_102 fX4_18 rfl (by decide) ?_
        refine zr_if_ne (tgt := 112) dX4_read_105 (by decide) c3 (fun h => ?_) (fun h => ?_)
        · have W := W.1 h
          refine zr_iconst dX4_read_112 ?_
          exact zt_zret dX4_read_113 rfl (by decide) W
        · have W := W.2 h
          refine zr_iconst dX4_read_108 ?_
          refine zr_goto (tgt := 113) dX4_read_109 (by decide) ?_
          exact zt_zret dX4_read_113 rfl (by decide) W
      · have W := W.2 h
        refine zr_aload_n 0 dX4_read_52 rfl ?_
        refine zr_iload_n 1 dX4_read_53 rfl ?_
        obtain ⟨q9, k13, W⟩ := W
        refine zt_callVi (As := [zI x1]) (rest := []) dX4_read_54 kX4_read_44 rfl rfl rfl rfl (Nat.le_of_ble_eq_true rfl) k13 (fun r10 M11 h12 => ?_)
        have W := W r10 M11 h12
        refine zr_istore_n (l' := [(0, zA g 7), (1, zI x1), (2, zI r10)]) dX4_read_57 (by decide) [1, 2, 0] rfl ?_
        refine zr_aload_n 0 dX4_read_58 rfl ?_
        refine zt_geti 2 rfl dX4_read_59 fX4_18 rfl (by decide) ?_
        obtain ⟨c14, W⟩ := W
        refine zr_if_ne (tgt := 95) dX4_read_62 (by decide) c14 (fun h => ?_) (fun h => ?_)
        · have W := W.1 h
          refine zr_iinc (q := 1) (l' := [(0, zA g 7), (1, zI (x1 + 1))]) dX4_read_95 rfl (by decide) [1, 0] rfl ?_
          refine zr_goto (tgt := 31) dX4_read_98 (by decide) ?_
          exact W
        · have W := W.2 h
          refine zr_aload_n 0 dX4_read_65 rfl ?_
          refine zr_getr (b := 8) dX4_read_66 fX4_12 rfl rfl rfl (by decide) ?_
          refine zr_iload_n 2 dX4_read_69 rfl ?_
          obtain ⟨c15, W⟩ := W
          obtain ⟨c16, W⟩ := W
          refine zt_callVv (As := [zI r10]) (rest := []) dX4_read_70 kX4_read_48 rfl rfl rfl rfl (Nat.le_of_ble_eq_true rfl) (c_setTold c15 c16) (fun N19 h18 => ?_)
          have W := W N19 h18
          refine zr_aload_n 0 dX4_read_73 rfl ?_
          refine zr_iload_n 2 dX4_read_74 rfl ?_
          obtain ⟨q20, k24, W⟩ := W
          refine zt_callVv (As := [zI r10]) (rest := []) dX4_read_75 kX4_read_52 rfl rfl rfl rfl (Nat.le_of_ble_eq_true rfl) k24 (fun M22 h23 => ?_)
          have W := W M22 h23
          refine zr_aload_n 0 dX4_read_78 rfl ?_
          refine zr_aload_n 0 dX4_read_79 rfl ?_
          obtain ⟨c25, W⟩ := W
          refine zt_callVi (As := []) (rest := [zA g 7]) dX4_read_80 kX4_read_40 rfl rfl rfl rfl (Nat.le_of_ble_eq_true rfl) (c_kind c25) (fun r26 N28 h27 => ?_)
          rw [h27.1, h27.2]
          refine zr_iconst dX4_read_83 ?_
          obtain ⟨c29, W⟩ := W
          refine zr_icmp_ne (tgt := 91) dX4_read_84 (by decide) c29 ⟨by decide, by decide⟩ (fun h => ?_) (fun h => ?_)
          · have W := W.1 h
            refine zr_iconst dX4_read_91 ?_
            obtain ⟨c30, W⟩ := W
            refine zt_callVv (As := [zI 0]) (rest := []) dX4_read_92 kX4_read_55 rfl rfl rfl rfl (Nat.le_of_ble_eq_true rfl) (c_expect c30 (by decide)) (fun N33 h32 => ?_)
            have W := W N33 h32
            refine zr_iinc (q := 1) (l' := [(0, zA g 7), (1, zI (x1 + 1))]) dX4_read_95 rfl (by decide) [1, 0] rfl ?_
            refine zr_goto (tgt := 31) dX4_read_98 (by decide) ?_
            exact W
          · have W := W.2 h
            refine zr_iconst dX4_read_87 ?_
            refine zr_goto (tgt := 92) dX4_read_88 (by decide) ?_
            obtain ⟨c34, W⟩ := W
            refine zt_callVv (As := [zI 1]) (rest := []) dX4_read_92 kX4_read_55 rfl rfl rfl rfl (Nat.le_of_ble_eq_true rfl) (c_expect c34 (by decide)) (fun N37 h36 => ?_)
            have W := W N37 h36
            refine zr_iinc (q := 1) (l' := [(0, zA g 7), (1, zI (x1 + 1))]) dX4_read_95 rfl (by decide) [1, 0] rfl ?_
            refine zr_goto (tgt := 31) dX4_read_98 (by decide) ?_
            exact W
theorem dX9_field_0 : decode cX9_field 0 = .ok (.aload_n 0, 1) := by decide +kernel
theorem dX9_field_1 : decode cX9_field 1 = .ok (.getfield 21, 3) := by decide +kernel
theorem dX9_field_4 : decode cX9_field 4 = .ok (.invokevirtual 116, 3) := by decide +kernel
theorem dX9_field_7 : decode cX9_field 7 = .ok (.istore_n 1, 1) := by decide +kernel
theorem dX9_field_8 : decode cX9_field 8 = .ok (.aload_n 0, 1) := by decide +kernel
theorem dX9_field_9 : decode cX9_field 9 = .ok (.getfield 10, 3) := by decide +kernel
theorem dX9_field_12 : decode cX9_field 12 = .ok (.iconst 0, 1) := by decide +kernel
theorem dX9_field_13 : decode cX9_field 13 = .ok (.putfield 109, 3) := by decide +kernel
theorem dX9_field_16 : decode cX9_field 16 = .ok (.iload_n 1, 1) := by decide +kernel
theorem dX9_field_17 : decode cX9_field 17 = .ok (.ifCond .ne 5, 3) := by decide +kernel
theorem dX9_field_20 : decode cX9_field 20 = .ok (.iconst (-1), 1) := by decide +kernel
theorem dX9_field_21 : decode cX9_field 21 = .ok (.ireturn, 1) := by decide +kernel
theorem dX9_field_22 : decode cX9_field 22 = .ok (.aload_n 0, 1) := by decide +kernel
theorem dX9_field_23 : decode cX9_field 23 = .ok (.aload_n 0, 1) := by decide +kernel
theorem dX9_field_24 : decode cX9_field 24 = .ok (.getfield 21, 3) := by decide +kernel
theorem dX9_field_27 : decode cX9_field 27 = .ok (.getfield 101, 3) := by decide +kernel
theorem dX9_field_30 : decode cX9_field 30 = .ok (.invokevirtual 105, 3) := by decide +kernel
theorem dX9_field_33 : decode cX9_field 33 = .ok (.aload_n 0, 1) := by decide +kernel
theorem dX9_field_34 : decode cX9_field 34 = .ok (.getfield 28, 3) := by decide +kernel
theorem dX9_field_37 : decode cX9_field 37 = .ok (.getfield 120, 3) := by decide +kernel
theorem dX9_field_40 : decode cX9_field 40 = .ok (.ireturn, 1) := by decide +kernel
set_option maxRecDepth 100000 in
theorem SX9_field_0 {g : zG} {o : Bool} {M : zM} {q : Int → zM → Prop} (W : ∃ q1 : Int → zM → Prop, zKi g (z1 o) mX4_read [zA g 7] M q1 ∧ ∀ (r2 : Int) (M3 : zM), q1 r2 M3 → (-2147483648 ≤ r2 ∧ r2 ≤ 2147483647) ∧ ((r2 ≠ 0) → ∃ q7 : zM → Prop, zKv g (z1 o) mX9_adopt [zA g 1, zA g 8] (zu M3 2 1 0) q7 ∧ ∀ M9 : zM, q7 M9 → q (M9 14 2) M9) ∧ ((r2 = 0) → q (-1) (zu M3 2 1 0))) : zT g (z1 o) mX9_field (zQi (z1 o) q) 0 [(0, zA g 1)] [] M := by
  refine zr_aload_n 0 dX9_field_0 rfl ?_
  refine zr_getr (b := 7) dX9_field_1 fX9_21 rfl rfl rfl (by decide) ?_
  obtain ⟨q1, k5, W⟩ := W
  refine zt_callVi (As := []) (rest := []) dX9_field_4 kX9_field_116 rfl rfl rfl rfl (Nat.le_of_ble_eq_true rfl) k5 (fun r2 M3 h4 => ?_)
  have W := W r2 M3 h4
  refine zr_istore_n (l' := [(0, zA g 1), (1, zI r2)]) dX9_field_7 (by decide) [1, 0] rfl ?_
  refine zr_aload_n 0 dX9_field_8 rfl ?_
  refine zr_getr (b := 2) dX9_field_9 fX9_10 rfl rfl rfl (by decide) ?_
  refine zr_iconst dX9_field_12 ?_
  refine zt_puti 1 rfl dX9_field_13 fX9_109 lcX8 ltX8_1 rfl rfl ?_
  refine zr_iload_n 1 dX9_field_16 rfl ?_
  obtain ⟨c6, W⟩ := W
  refine zr_if_ne (tgt := 22) dX9_field_17 (by decide) c6 (fun h => ?_) (fun h => ?_)
  · have W := W.1 h
    refine zr_aload_n 0 dX9_field_22 rfl ?_
    refine zr_aload_n 0 dX9_field_23 rfl ?_
    refine zr_getr (b := 7) dX9_field_24 fX9_21 rfl rfl rfl (by decide) ?_
    refine zr_getr (b := 8) dX9_field_27 fX9_101 rfl rfl rfl (by decide) ?_
    obtain ⟨q7, k11, W⟩ := W
    refine zt_callVv (As := [zA g 8]) (rest := []) dX9_field_30 kX9_field_105 rfl rfl rfl rfl (Nat.le_of_ble_eq_true rfl) k11 (fun M9 h10 => ?_)
    have W := W M9 h10
    refine zr_aload_n 0 dX9_field_33 rfl ?_
    refine zr_getr (b := 14) dX9_field_34 fX9_28 rfl rfl rfl (by decide) ?_
    refine zt_geti 2 rfl dX9_field_37 fX9_120 rfl (by decide) ?_
    exact zt_iret dX9_field_40 rfl W
  · have W := W.2 h
    refine zr_iconst dX9_field_20 ?_
    exact zt_iret dX9_field_21 rfl W
