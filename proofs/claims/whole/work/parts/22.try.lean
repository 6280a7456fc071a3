theorem dX7_tryOnce_0 : decode cX7_tryOnce 0 = .ok (.aload_n 0, 1) := by decide +kernel
theorem dX7_tryOnce_1 : decode cX7_tryOnce 1 = .ok (.getfield 22, 3) := by decide +kernel
theorem dX7_tryOnce_4 : decode cX7_tryOnce 4 = .ok (.aload_n 0, 1) := by decide +kernel
theorem dX7_tryOnce_5 : decode cX7_tryOnce 5 = .ok (.getfield 26, 3) := by decide +kernel
theorem dX7_tryOnce_8 : decode cX7_tryOnce 8 = .ok (.getfield 49, 3) := by decide +kernel
theorem dX7_tryOnce_11 : decode cX7_tryOnce 11 = .ok (.invokevirtual 52, 3) := by decide +kernel
theorem dX7_tryOnce_14 : decode cX7_tryOnce 14 = .ok (.istore_n 1, 1) := by decide +kernel
theorem dX7_tryOnce_15 : decode cX7_tryOnce 15 = .ok (.aload_n 0, 1) := by decide +kernel
theorem dX7_tryOnce_16 : decode cX7_tryOnce 16 = .ok (.getfield 26, 3) := by decide +kernel
theorem dX7_tryOnce_19 : decode cX7_tryOnce 19 = .ok (.dup, 1) := by decide +kernel
theorem dX7_tryOnce_20 : decode cX7_tryOnce 20 = .ok (.getfield 49, 3) := by decide +kernel
theorem dX7_tryOnce_23 : decode cX7_tryOnce 23 = .ok (.iconst 1, 1) := by decide +kernel
theorem dX7_tryOnce_24 : decode cX7_tryOnce 24 = .ok (.iadd, 1) := by decide +kernel
theorem dX7_tryOnce_25 : decode cX7_tryOnce 25 = .ok (.putfield 49, 3) := by decide +kernel
theorem dX7_tryOnce_28 : decode cX7_tryOnce 28 = .ok (.aload_n 0, 1) := by decide +kernel
theorem dX7_tryOnce_29 : decode cX7_tryOnce 29 = .ok (.getfield 26, 3) := by decide +kernel
theorem dX7_tryOnce_32 : decode cX7_tryOnce 32 = .ok (.aload_n 0, 1) := by decide +kernel
theorem dX7_tryOnce_33 : decode cX7_tryOnce 33 = .ok (.getfield 22, 3) := by decide +kernel
theorem dX7_tryOnce_36 : decode cX7_tryOnce 36 = .ok (.getfield 58, 3) := by decide +kernel
theorem dX7_tryOnce_39 : decode cX7_tryOnce 39 = .ok (.invokevirtual 61, 3) := by decide +kernel
theorem dX7_tryOnce_42 : decode cX7_tryOnce 42 = .ok (.istore_n 2, 1) := by decide +kernel
theorem dX7_tryOnce_43 : decode cX7_tryOnce 43 = .ok (.aload_n 0, 1) := by decide +kernel
theorem dX7_tryOnce_44 : decode cX7_tryOnce 44 = .ok (.iload_n 2, 1) := by decide +kernel
theorem dX7_tryOnce_45 : decode cX7_tryOnce 45 = .ok (.iload_n 1, 1) := by decide +kernel
theorem dX7_tryOnce_46 : decode cX7_tryOnce 46 = .ok (.invokevirtual 64, 3) := by decide +kernel
theorem dX7_tryOnce_49 : decode cX7_tryOnce 49 = .ok (.ifCond .ne 5, 3) := by decide +kernel
theorem dX7_tryOnce_52 : decode cX7_tryOnce 52 = .ok (.iconst 0, 1) := by decide +kernel
theorem dX7_tryOnce_53 : decode cX7_tryOnce 53 = .ok (.ireturn, 1) := by decide +kernel
theorem dX7_tryOnce_54 : decode cX7_tryOnce 54 = .ok (.aload_n 0, 1) := by decide +kernel
theorem dX7_tryOnce_55 : decode cX7_tryOnce 55 = .ok (.iload_n 2, 1) := by decide +kernel
theorem dX7_tryOnce_56 : decode cX7_tryOnce 56 = .ok (.invokevirtual 68, 3) := by decide +kernel
theorem dX7_tryOnce_59 : decode cX7_tryOnce 59 = .ok (.aload_n 0, 1) := by decide +kernel
theorem dX7_tryOnce_60 : decode cX7_tryOnce 60 = .ok (.aload_n 0, 1) := by decide +kernel
theorem dX7_tryOnce_61 : decode cX7_tryOnce 61 = .ok (.iload_n 2, 1) := by decide +kernel
theorem dX7_tryOnce_62 : decode cX7_tryOnce 62 = .ok (.iload_n 1, 1) := by decide +kernel
theorem dX7_tryOnce_63 : decode cX7_tryOnce 63 = .ok (.invokevirtual 72, 3) := by decide +kernel
theorem dX7_tryOnce_66 : decode cX7_tryOnce 66 = .ok (.invokevirtual 76, 3) := by decide +kernel
theorem dX7_tryOnce_69 : decode cX7_tryOnce 69 = .ok (.iconst 1, 1) := by decide +kernel
theorem dX7_tryOnce_70 : decode cX7_tryOnce 70 = .ok (.ireturn, 1) := by decide +kernel
set_option maxRecDepth 100000 in
theorem SX7_tryOnce_0 {g : zG} {o : Bool} {a s : Nat} (ha : zSt a s) {C R : Int} {M : zM} {q : Int → zM → Prop} (W : (zLand M C R) ∧ (0 ≤ (M s 4) ∧ (M s 4) ≤ 2147483647) ∧ ∀ r3 : Int, r3 = wnd M (M s 4) → (0 ≤ (zu M s 4 ((M s 4) + 1)) s 3 ∧ (zu M s 4 ((M s 4) + 1)) s 3 ≤ 10006) ∧ ((0 : Int) < ((zu M s 4 ((M s 4) + 1)) 14 2) ∧ ((zu M s 4 ((M s 4) + 1)) 14 2) ≤ (2147483647 : Int)) ∧ ∀ (r8 : Int) (N10 : zM), r8 = ((zu M s 4 ((M s 4) + 1)) s 3 * 137 + 71) % 10007 % ((zu M s 4 ((M s 4) + 1)) 14 2) → N10 = zu (zu M s 4 ((M s 4) + 1)) s 3 (((zu M s 4 ((M s 4) + 1)) s 3 * 137 + 71) % 10007) → (zLand N10 C R) ∧ (0 ≤ r8 ∧ r8 < C * R) ∧ (0 ≤ r3 ∧ r3 ≤ 3) ∧ (Bd (N10 (s + 1))) ∧ (0 ≤ N10 (s + 3) 1 ∧ N10 (s + 3) 1 ≤ 9) ∧ (0 ≤ N10 (s + 2) r8 ∧ N10 (s + 2) r8 ≤ 1) ∧ ((yld C R (N10 (s + 1)) (N10 (s + 2)) (N10 (s + 3) 1) r8 r3) → (Bd (up (N10 (s + 1)) r8 (N10 (s + 1) r8 - 1))) ∧ ∀ N23 : zM, N23 = zput N10 a s (flz C R (N10 14 3) 96 (up (N10 (s + 1)) r8 (N10 (s + 1) r8 - 1), N10 a 4, N10 (a + 1)) r8) → (zLand N23 C R) ∧ (Bd (N23 (s + 1))) ∧ (1 ≤ N23 (s + 3) 0 ∧ N23 (s + 3) 0 ≤ 6) ∧ (0 ≤ N23 (s + 3) 1 ∧ N23 (s + 3) 1 ≤ 9) ∧ (0 ≤ N23 (s + 3) 2 ∧ N23 (s + 3) 2 ≤ 16) ∧ (0 ≤ N23 (s + 3) 3 ∧ N23 (s + 3) 3 ≤ 16) ∧ (0 ≤ N23 s 3 ∧ N23 s 3 ≤ 10006) ∧ ∀ (r31 : Int) (N33 : zM), r31 = (fly C R r3 (N23 (s + 3) 0) (N23 (s + 1)) (N23 (s + 3) 1) (N23 (s + 3) 2) (N23 (s + 3) 3) 20 r8 (N23 s 3) (N23 (a + 1)) (N23 a 3)).1 → N33 = zfm N23 a s (fly C R r3 (N23 (s + 3) 0) (N23 (s + 1)) (N23 (s + 3) 1) (N23 (s + 3) 2) (N23 (s + 3) 3) 20 r8 (N23 s 3) (N23 (a + 1)) (N23 a 3)).2.1 (fly C R r3 (N23 (s + 3) 0) (N23 (s + 1)) (N23 (s + 3) 1) (N23 (s + 3) 2) (N23 (s + 3) 3) 20 r8 (N23 s 3) (N23 (a + 1)) (N23 a 3)).2.2.1 (fly C R r3 (N23 (s + 3) 0) (N23 (s + 1)) (N23 (s + 3) 1) (N23 (s + 3) 2) (N23 (s + 3) 3) 20 r8 (N23 s 3) (N23 (a + 1)) (N23 a 3)).2.2.2 → (zLand N33 C R) ∧ (0 ≤ r31 ∧ r31 < C * R) ∧ (Bd (up (N33 (s + 1)) r31 (N33 (s + 1) r31 + 1))) ∧ ∀ N39 : zM, N39 = zput N33 a s (spz C R (N33 14 3) 96 (up (N33 (s + 1)) r31 (N33 (s + 1) r31 + 1), N33 a 4, N33 (a + 1)) r31) → q 1 N39) ∧ ((¬ (yld C R (N10 (s + 1)) (N10 (s + 2)) (N10 (s + 3) 1) r8 r3)) → q 0 N10)) : zT g (z1 o) mX7_tryOnce (zQi (z1 o) q) 0 [(0, zA g a)] [] M := by
  refine zr_aload_n 0 dX7_tryOnce_0 rfl ?_
  refine zr_getr (b := 14) dX7_tryOnce_1 fX7_22 (zst_0 ha) rfl (zst_f0 ha) (by decide) ?_
  refine zr_aload_n 0 dX7_tryOnce_4 rfl ?_
  refine zr_getr (b := s) dX7_tryOnce_5 fX7_26 (zst_0 ha) rfl (zst_f1 ha) (zsd_nz (zst_s ha)) ?_
  refine zt_geti 4 rfl dX7_tryOnce_8 fX7_49 (zsd_0 (zst_s ha)) (by decide) ?_
  obtain ⟨c1, W⟩ := W
  obtain ⟨c2, W⟩ := W
  refine zt_callVi (As := [zI (M s 4)]) (rest := []) dX7_tryOnce_11 kX7_tryOnce_52 rfl rfl rfl rfl (Nat.le_of_ble_eq_true rfl) (c_wind c1 c2) (fun r3 N5 h4 => ?_)
  rw [h4.2]
  have W := W r3 h4.1
  refine zr_istore_n (l' := [(0, zA g a), (1, zI r3)]) dX7_tryOnce_14 (by decide) [1, 0] rfl ?_
  refine zr_aload_n 0 dX7_tryOnce_15 rfl ?_
  refine zr_getr (b := s) dX7_tryOnce_16 fX7_26 (zst_0 ha) rfl (zst_f1 ha) (zsd_nz (zst_s ha)) ?_
  refine zr_dup dX7_tryOnce_19 rfl ?_
  refine zt_geti 4 rfl dX7_tryOnce_20 fX7_49 (zsd_0 (zst_s ha)) (by decide) ?_
  refine zr_iconst dX7_tryOnce_23 ?_
  refine zr_iadd dX7_tryOnce_24 ?_
  refine zt_puti 4 rfl dX7_tryOnce_25 fX7_49 lcX5 ltX5_4 rfl (zsd_0 (zst_s ha)) ?_
  refine zr_aload_n 0 dX7_tryOnce_28 rfl ?_
  refine zr_getr (b := s) dX7_tryOnce_29 fX7_26 (zst_0 ha) rfl (zst_f1 ha) (zsd_nz (zst_s ha)) ?_
  refine zr_aload_n 0 dX7_tryOnce_32 rfl ?_
  refine zr_getr (b := 14) dX7_tryOnce_33 fX7_22 (zst_0 ha) rfl (zst_f0 ha) (by decide) ?_
  refine zt_geti 2 rfl dX7_tryOnce_36 fX7_58 rfl (by decide) ?_
  obtain ⟨c6, W⟩ := W
  obtain ⟨c7, W⟩ := W
  refine zt_callVi (As := [zI ((zu M s 4 ((M s 4) + 1)) 14 2)]) (rest := []) dX7_tryOnce_39 kX7_tryOnce_61 (zsd_0 (zst_s ha)) rfl rfl rfl (Nat.le_of_ble_eq_true rfl) (c_draw (zst_s ha) c6 c7) (fun r8 N10 h9 => ?_)
  have W := W r8 N10 h9.1 h9.2
  refine zr_istore_n (l' := [(0, zA g a), (1, zI r3), (2, zI r8)]) dX7_tryOnce_42 (by decide) [1, 2, 0] rfl ?_
  refine zr_aload_n 0 dX7_tryOnce_43 rfl ?_
  refine zr_iload_n 2 dX7_tryOnce_44 rfl ?_
  refine zr_iload_n 1 dX7_tryOnce_45 rfl ?_
  obtain ⟨c11, W⟩ := W
  obtain ⟨c12, W⟩ := W
  obtain ⟨c13, W⟩ := W
  obtain ⟨c14, W⟩ := W
  obtain ⟨c15, W⟩ := W
  obtain ⟨c16, W⟩ := W
  refine zt_callVi (As := [zI r8, zI r3]) (rest := []) dX7_tryOnce_46 kX7_tryOnce_64 (zst_0 ha) rfl rfl rfl (Nat.le_of_ble_eq_true rfl) (c_yields ha c11 c12 c13 c14 c15 c16) (fun r17 N19 h18 => ?_)
  rw [h18.1, h18.2]
  refine zt_ifne_b (tgt := 54) dX7_tryOnce_49 (by decide) (fun h => ?_) (fun h => ?_)
  · have W := W.1 h
    refine zr_aload_n 0 dX7_tryOnce_54 rfl ?_
    refine zr_iload_n 2 dX7_tryOnce_55 rfl ?_
    obtain ⟨c20, W⟩ := W
    refine zt_callVv (As := [zI r8]) (rest := []) dX7_tryOnce_56 kX7_tryOnce_68 (zst_0 ha) rfl rfl rfl (Nat.le_of_ble_eq_true rfl) (c_lift ha c11 c12 c20) (fun N23 h22 => ?_)
    have W := W N23 h22
    refine zr_aload_n 0 dX7_tryOnce_59 rfl ?_
    refine zr_aload_n 0 dX7_tryOnce_60 rfl ?_
    refine zr_iload_n 2 dX7_tryOnce_61 rfl ?_
    refine zr_iload_n 1 dX7_tryOnce_62 rfl ?_
    obtain ⟨c24, W⟩ := W
    obtain ⟨c25, W⟩ := W
    obtain ⟨c26, W⟩ := W
    obtain ⟨c27, W⟩ := W
    obtain ⟨c28, W⟩ := W
    obtain ⟨c29, W⟩ := W
    obtain ⟨c30, W⟩ := W
    refine zt_callVi (As := [zI r8, zI r3]) (rest := [zA g a]) dX7_tryOnce_63 kX7_tryOnce_72 (zst_0 ha) rfl rfl rfl (Nat.le_of_ble_eq_true rfl) (c_carry ha c24 c12 c13 c25 c26 c27 c28 c29 c30) (fun r31 N33 h32 => ?_)
    have W := W r31 N33 h32.1 h32.2
    obtain ⟨c34, W⟩ := W
    obtain ⟨c35, W⟩ := W
    obtain ⟨c36, W⟩ := W
    refine zt_callVv (As := [zI r31]) (rest := []) dX7_tryOnce_66 kX7_tryOnce_76 (zst_0 ha) rfl rfl rfl (Nat.le_of_ble_eq_true rfl) (c_drop ha c34 c35 c36) (fun N39 h38 => ?_)
    have W := W N39 h38
    refine zr_iconst dX7_tryOnce_69 ?_
    exact zt_zret dX7_tryOnce_70 rfl (by decide) W
  · have W := W.2 h
    refine zr_iconst dX7_tryOnce_52 ?_
    exact zt_zret dX7_tryOnce_53 rfl (by decide) W
abbrev Sx : Type := Hz × Int × Int × Int
/-- heights, slides, lines; hops; seed; tries -/
def zgx (M : zM) (a s : Nat) : Sx := ((M (s + 1), M a 4, M (a + 1)), M a 3, M s 3, M s 4)
def zfr (M M' : zM) (a s : Nat) : Prop := ∀ b : Nat, b ≠ s → b ≠ s + 1 → b ≠ a → b ≠ a + 1 → M' b = M b
def dsd (sd : Int) : Int := (sd * 137 + 71) % 10007
def tryB (C R : Int) (wd G : Int → Int) (sh : Int) (x : Sx) : Prop := yld C R x.1.1 G sh (dsd x.2.2.1 % (C * R)) (wd x.2.2.2)
def tryZ (C R S : Int) (x : Sx) : Hz := flz C R S 96 (up x.1.1 (dsd x.2.2.1 % (C * R)) (x.1.1 (dsd x.2.2.1 % (C * R)) - 1), x.1.2.1, x.1.2.2) (dsd x.2.2.1 % (C * R))
noncomputable def tryY (C R S : Int) (wd : Int → Int) (hop sh st bt : Int) (x : Sx) : Int × Int × (Int → Int) × Int := fly C R (wd x.2.2.2) hop (tryZ C R S x).1 sh st bt 20 (dsd x.2.2.1 % (C * R)) (dsd x.2.2.1) (tryZ C R S x).2.2 x.2.1
noncomputable def tryS (C R S : Int) (wd G : Int → Int) (hop sh st bt : Int) (x : Sx) : Sx :=
  if zb (tryB C R wd G sh x) = 1 then (spz C R S 96 (up (tryZ C R S x).1 (tryY C R S wd hop sh st bt x).1 ((tryZ C R S x).1 (tryY C R S wd hop sh st bt x).1 + 1), (tryZ C R S x).2.1, (tryY C R S wd hop sh st bt x).2.2.1) (tryY C R S wd hop sh st bt x).1, (tryY C R S wd hop sh st bt x).2.2.2, (tryY C R S wd hop sh st bt x).2.1, x.2.2.2 + 1)
  else (x.1, x.2.1, dsd x.2.2.1, x.2.2.2 + 1)
def SandOK (M : zM) (s : Nat) (B T : Int) : Prop := BdB B (M (s + 1)) ∧ (∀ i : Int, 0 ≤ i → i < 96 → 0 ≤ M (s + 2) i ∧ M (s + 2) i ≤ 1) ∧ (1 ≤ M (s + 3) 0 ∧ M (s + 3) 0 ≤ 6) ∧ (1 ≤ M (s + 3) 1 ∧ M (s + 3) 1 ≤ 9) ∧ (0 ≤ M (s + 3) 2 ∧ M (s + 3) 2 ≤ 16) ∧ (0 ≤ M (s + 3) 3 ∧ M (s + 3) 3 ≤ 16) ∧ (0 ≤ M s 3 ∧ M s 3 ≤ 10006) ∧ (0 ≤ M s 4 ∧ M s 4 ≤ T)
section CT
variable {g : zG} {o : Bool} {M M' : zM} {C R S c w sd hp B T t x : Int} {s a b : Nat} {X H : Int → Int}
theorem dsd_in (sd : Int) : 0 ≤ dsd sd ∧ dsd sd ≤ 10006 := by
  have := md (C := 10007) (k := sd * 137 + 71) (by decide); unfold dsd; omega
theorem zfr.L (ha : zSt a s) (hL : zLand M C R) (h : zfr M M' a s) : zLand M' C R := by
  have hn := zst_ne ha
  exact hL.of (fun b h1 h2 => h b (by omega) (by omega) (by omega) (by omega))
theorem wnd_in (hL : zLand M C R) (ht : 0 ≤ t) : 0 ≤ wnd M t ∧ wnd M t ≤ 3 := by
  obtain ⟨-, -, -, -, -, hn, hrd, hw, -⟩ := hL
  obtain ⟨n, hnn⟩ : ∃ n : Nat, M 14 4 = (n : Int) := znn (by omega)
  rw [hnn, Int.toNat_natCast] at hrd
  rw [hnn] at hw hn
  have hpos : 1 ≤ smt (M 19) n := by
    cases n with
    | zero => omega
    | succ k =>
      have h1 := smt_nn (f := M 19) (n := k) (fun i h0 h1 => by have := hw i h0 (by omega); omega)
      have h2 := hw k (by omega) (by omega)
      show 1 ≤ smt (M 19) k + M 19 k
      omega
  have hmod := md (C := M 14 5) (k := t) (by omega)
  have hx := wix_lt (sp := M 19) (n := n) (i := 0) (l := t % M 14 5) (fun j h1 h2 => (hw j h1 (by omega)).2.1) hmod.1 (by rw [hrd] at hmod ⊢; simpa using hmod.2)
  unfold wnd
  rw [hnn, Int.toNat_natCast]
  exact (hw _ hx.1 (by omega)).1
theorem fly_in (hG : Geo C R) {hop sh st bt : Int} (n : Nat) (hc : 0 ≤ c ∧ c < C * R) (hs : 0 ≤ sd ∧ sd ≤ 10006) : (0 ≤ (fly C R w hop H sh st bt n c sd X hp).1 ∧ (fly C R w hop H sh st bt n c sd X hp).1 < C * R) ∧ 0 ≤ (fly C R w hop H sh st bt n c sd X hp).2.1 ∧ (fly C R w hop H sh st bt n c sd X hp).2.1 ≤ 10006 := by
  induction n generalizing c sd X hp with
  | zero => exact ⟨hc, hs⟩
  | succ n ih =>
    have a1 := alg_in (w := w) (k := hop) hG hc
    have d1 := dsd_in sd
    unfold dsd at d1
    unfold fly
    repeat' split
    all_goals first | exact ⟨a1, hs⟩ | exact ⟨a1, d1⟩ | exact ih a1 d1
theorem up_bd (hB : BdB B H) (hx : 0 ≤ x ∧ x ≤ B) : BdB B (up H c x) := fun i h0 h1 => by
  unfold up; split
  · exact hx
  · exact hB i h0 h1
theorem BdB.le {B' : Int} (h : BdB B H) (hb : B ≤ B') : BdB B' H := fun i h0 h1 => by have := h i h0 h1; omega
theorem c_try (ha : zSt a s) (hL : zLand M C R) (hO : SandOK M s B T) (hB : 0 ≤ B ∧ B < 1000000000) (hT : T ≤ 2000000000) :
    zKi g (z1 o) mX7_tryOnce [zA g a] M (fun r M' => r = zb (tryB C R (wnd M) (M (s + 2)) (M (s + 3) 1) (zgx M a s)) ∧ zgx M' a s = tryS C R (M 14 3) (wnd M) (M (s + 2)) (M (s + 3) 0) (M (s + 3) 1) (M (s + 3) 2) (M (s + 3) 3) (zgx M a s) ∧ zfr M M' a s ∧ SandOK M' s (B + 1) (T + 1)) := by
  obtain ⟨o1, o2, o3, o4, o5, o6, o7, o8⟩ := hO
  have hn := geo_n hL.1
  have hne := zst_ne ha
  have hS := hL.2.2.2.2.1
  have e14 : M 14 2 = C * R := hL.2.2.2.1
  have d1 := dsd_in (M s 3)
  have c1 := md (C := C * R) (k := dsd (M s 3)) (by omega)
  have w1 := wnd_in (t := M s 4) hL o8.1
  have ow := o1 (dsd (M s 3) % (C * R)) c1.1 (by omega)
  refine zki_of rfl (Nat.le_of_ble_eq_true rfl) (SX7_tryOnce_0 (C := C) (R := R) ha ⟨hL, by omega, fun r3 e3 => ?_⟩)
  rw [show zu M s 4 (M s 4 + 1) s 3 = M s 3 by rw [zu_row, if_neg (by decide)], show zu M s 4 (M s 4 + 1) 14 = M 14 from zu_other (by omega), e14]
  refine ⟨by omega, by omega, fun r8 N10 e8 e10 => ?_⟩
  have n1 : ∀ b : Nat, b ≠ s → N10 b = M b := fun b h => by rw [e10, zu_other h, zu_other h]
  have n3 : N10 s 3 = dsd (M s 3) := by rw [e10, zu_at]; rfl
  have n4 : N10 s 4 = M s 4 + 1 := by rw [e10, zu_row, if_neg (by decide), zu_at]
  have e8 : r8 = dsd (M s 3) % (C * R) := e8
  rw [n1 (s + 1) (by omega), n1 (s + 2) (by omega), n1 (s + 3) (by omega), n1 14 (by omega), n1 a (by omega), n1 (a + 1) (by omega)]
  have hL10 : zLand N10 C R := hL.of (fun b h1 h2 => n1 b (by omega))
  have hB1 : Bd (M (s + 1)) := o1.le (by omega)
  have hg := o2 r8 (by omega) (by omega)
  refine ⟨hL10, by omega, by omega, hB1, by omega, hg, fun hy => ?_, fun hy => ?_⟩
  · have hpos : 0 < M (s + 1) r8 := hy.1
    have ow' := o1 r8 (by omega) (by omega)
    have hU : BdB B (up (M (s + 1)) r8 (M (s + 1) r8 - 1)) := up_bd o1 (by omega)
    refine ⟨hU.le (by omega), fun N23 e23 => ?_⟩
    have ez : flz C R (M 14 3) 96 (up (M (s + 1)) r8 (M (s + 1) r8 - 1), M a 4, M (a + 1)) r8 = tryZ C R (M 14 3) (zgx M a s) := by rw [e8]; rfl
    rw [ez] at e23
    have hZ : BdB B (tryZ C R (M 14 3) (zgx M a s)).1 := by rw [← ez]; exact flz_bd hL.1 hS.1 96 _ r8 (by omega) hU
    have p1 : N23 (s + 1) = (tryZ C R (M 14 3) (zgx M a s)).1 := by rw [e23, zput_h ha]
    have p2 : N23 (a + 1) = (tryZ C R (M 14 3) (zgx M a s)).2.2 := by rw [e23, zput_x]
    have p3 : N23 a 4 = (tryZ C R (M 14 3) (zgx M a s)).2.1 := by rw [e23, zput_a ha, if_pos rfl]
    have p4 : N23 a 3 = M a 3 := by rw [e23, zput_a ha, if_neg (by decide), n1 a (by omega)]
    have p5 : ∀ b : Nat, b ≠ s + 1 → b ≠ a → b ≠ a + 1 → N23 b = N10 b := fun b h1 h2 h3 => by rw [e23, zput_o h1 h2 h3]
    have p6 : N23 (s + 3) = M (s + 3) := by rw [p5 _ (by omega) (by omega) (by omega), n1 _ (by omega)]
    have p7 : N23 s = N10 s := p5 s (by omega) (by omega) (by omega)
    rw [p1, p6, p7, n3, p2, p4]
    have hL23 : zLand N23 C R := hL10.of (fun b h1 h2 => p5 b (by omega) (by omega) (by omega))
    refine ⟨hL23, hZ.le (by omega), o3, by omega, o5, o6, d1, fun r31 N33 e31 e33 => ?_⟩
    have ey : fly C R r3 (M (s + 3) 0) (tryZ C R (M 14 3) (zgx M a s)).1 (M (s + 3) 1) (M (s + 3) 2) (M (s + 3) 3) 20 r8 (dsd (M s 3)) (tryZ C R (M 14 3) (zgx M a s)).2.2 (M a 3) = tryY C R (M 14 3) (wnd M) (M (s + 3) 0) (M (s + 3) 1) (M (s + 3) 2) (M (s + 3) 3) (zgx M a s) := by rw [e3, e8]; rfl
    rw [ey] at e31 e33
    have fi : (0 ≤ r31 ∧ r31 < C * R) ∧ 0 ≤ (tryY C R (M 14 3) (wnd M) (M (s + 3) 0) (M (s + 3) 1) (M (s + 3) 2) (M (s + 3) 3) (zgx M a s)).2.1 ∧ (tryY C R (M 14 3) (wnd M) (M (s + 3) 0) (M (s + 3) 1) (M (s + 3) 2) (M (s + 3) 3) (zgx M a s)).2.1 ≤ 10006 := by
      rw [e31, ← ey]; exact fly_in hL.1 20 (by omega) d1
    have q5 : ∀ b : Nat, b ≠ s → b ≠ a → b ≠ a + 1 → N33 b = N23 b := fun b h1 h2 h3 => by rw [e33, zfm_o h1 h2 h3]
    have q1 : N33 (s + 1) = (tryZ C R (M 14 3) (zgx M a s)).1 := by rw [q5 _ (by omega) (by omega) (by omega), p1]
    have q14 : N33 14 = M 14 := by rw [q5 _ (by omega) (by omega) (by omega), p5 _ (by omega) (by omega) (by omega), n1 _ (by omega)]
    have qx := hZ r31 fi.1.1 (by omega)
    have hU2 : BdB (B + 1) (up (N33 (s + 1)) r31 (N33 (s + 1) r31 + 1)) := by rw [q1]; exact up_bd (hZ.le (by omega)) (by omega)
    have hL33 : zLand N33 C R := hL23.of (fun b h1 h2 => q5 b (by omega) (by omega) (by omega))
    refine ⟨hL33, fi.1, hU2.le (by omega), fun N39 e39 => ?_⟩
    have x1 : N33 (a + 1) = (tryY C R (M 14 3) (wnd M) (M (s + 3) 0) (M (s + 3) 1) (M (s + 3) 2) (M (s + 3) 3) (zgx M a s)).2.2.1 := by rw [e33, zfm_x ha]
    have x2 : N33 a 4 = (tryZ C R (M 14 3) (zgx M a s)).2.1 := by rw [e33, zfm_a ha, if_neg (by decide), p3]
    have x3 : N33 a 3 = (tryY C R (M 14 3) (wnd M) (M (s + 3) 0) (M (s + 3) 1) (M (s + 3) 2) (M (s + 3) 3) (zgx M a s)).2.2.2 := by rw [e33, zfm_a ha, if_pos rfl]
    have x4 : N33 s 3 = (tryY C R (M 14 3) (wnd M) (M (s + 3) 0) (M (s + 3) 1) (M (s + 3) 2) (M (s + 3) 3) (zgx M a s)).2.1 := by rw [e33, zfm_s ha, if_pos rfl]
    have x5 : N33 s 4 = M s 4 + 1 := by rw [e33, zfm_s ha, if_neg (by decide), p7, n4]
    have y5 : ∀ b : Nat, b ≠ s + 1 → b ≠ a → b ≠ a + 1 → N39 b = N33 b := fun b h1 h2 h3 => by rw [e39, zput_o h1 h2 h3]
    have hb : tryB C R (wnd M) (M (s + 2)) (M (s + 3) 1) (zgx M a s) := by
      show yld C R (M (s + 1)) (M (s + 2)) (M (s + 3) 1) (dsd (M s 3) % (C * R)) (wnd M (M s 4))
      rw [← e8, ← e3]; exact hy
    have hsp : BdB (B + 1) (N39 (s + 1)) := by rw [e39, zput_h ha]; exact spz_bd hL33.1 (by rw [q14]; exact hS.1) 96 _ r31 fi.1 hU2
    have z3 : N39 (s + 3) = M (s + 3) := by rw [y5 _ (by omega) (by omega) (by omega), q5 _ (by omega) (by omega) (by omega), p6]
    have z2 : N39 (s + 2) = M (s + 2) := by rw [y5 _ (by omega) (by omega) (by omega), q5 _ (by omega) (by omega) (by omega), p5 _ (by omega) (by omega) (by omega), n1 _ (by omega)]
    have z0 : N39 s = N33 s := y5 s (by omega) (by omega) (by omega)
    refine ⟨(zb_t hb).symm, ?_, fun b h1 h2 h3 h4 => ?_, ?_⟩
    · unfold tryS
      rw [if_pos (zb_t hb)]
      have g1 : zgx N39 a s = ((N39 (s + 1), N39 a 4, N39 (a + 1)), N39 a 3, N39 s 3, N39 s 4) := rfl
      rw [g1, z0, x4, x5, e39, zput_h ha, zput_x, zput_a ha, if_pos rfl, zput_a ha, if_neg (by decide), x3, q1, q14, x1, x2, e31]
      rfl
    · rw [y5 b h2 h3 h4, q5 b h1 h3 h4, p5 b h2 h3 h4, n1 b h1]
    · unfold SandOK
      rw [z2, z3, z0, x4, x5]
      exact ⟨hsp, o2, o3, o4, o5, o6, fi.2, by omega⟩
  · have hb : ¬ tryB C R (wnd M) (M (s + 2)) (M (s + 3) 1) (zgx M a s) := by
      show ¬ yld C R (M (s + 1)) (M (s + 2)) (M (s + 3) 1) (dsd (M s 3) % (C * R)) (wnd M (M s 4))
      rw [← e8, ← e3]; exact hy
    refine ⟨(zb_f hb).symm, ?_, fun b h1 h2 h3 h4 => n1 b h1, ?_⟩
    · unfold tryS
      rw [if_neg (by rw [zb_f hb]; decide)]
      have g1 : zgx N10 a s = ((N10 (s + 1), N10 a 4, N10 (a + 1)), N10 a 3, N10 s 3, N10 s 4) := rfl
      rw [g1, n3, n4, n1 (s + 1) (by omega), n1 a (by omega), n1 (a + 1) (by omega)]
      rfl
    · unfold SandOK
      rw [n3, n4, n1 (s + 1) (by omega), n1 (s + 2) (by omega), n1 (s + 3) (by omega)]
      exact ⟨o1.le (by omega), o2, o3, o4, o5, o6, d1, by omega⟩
end CT
