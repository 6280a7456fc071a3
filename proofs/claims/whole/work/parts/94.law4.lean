/-! the law: two worlds side by side, its rows -/
def LA (p : Program) (s : State) (m : MethodId) (meth : Method) (c : Code) (b L : Nat) (xs : Nat → Int32) (g g' : zG) : Prop := lw_At p s m meth c b L xs ∧ L ≤ 3072 ∧ g.1 + 1 = s.heap.size ∧ g'.1 = g.1 + 149 ∧ g'.2 = g.2 ∧ va_K g.2.1 zcls (ztys g) s ∧ zX g s
def LR (p : Program) (la : Launch) (e : Env) (s : State) (m : MethodId) (below : List Frame) (meth : Method) (c : Code) (b : Nat) (g g' : zG) (pc : Nat) (l : List (Nat × Value)) (st : List Value) (M1 M2 : zM) : Prop :=
  ∀ (H : Heap) (locs : List Loc) (ls : Array Slot), va_S (fun q => g.1 < q) s.heap H locs → zH g (z1 false) M1 H → zH g' (z2 false) M2 H → lv_has ls 4 l → W p la e room_1 s m #[Value.ref b] below meth c H locs 174 27199 (lw_Z below #[Value.ref b] s) (F0 m pc ls st)
/-- the locals in the loop -/
abbrev LL (b : Nat) (g g' : zG) (i : Int) : List (Nat × Value) := [(0, Value.ref b), (1, zA g 1), (2, zA g' 1), (3, zI i)]
/-- an int of the script -/
def sv (xs : Nat → Int32) (i : Int) : Int := (xs i.toNat).toInt
theorem sv_in (xs : Nat → Int32) (i : Int) : -2147483648 ≤ sv xs i ∧ sv xs i ≤ 2147483647 := by
  unfold sv
  have h1 := Int32.le_toInt (xs i.toNat)
  have h2 := Int32.toInt_lt (xs i.toNat)
  exact ⟨by omega, by omega⟩
theorem sv_I (xs : Nat → Int32) (i : Int) : zI (sv xs i) = .int (xs i.toNat) := by unfold zI sv; rw [Int32.ofInt_toInt]
/-- the arguments as they lie on the stack -/
def avR (xs : Nat → Int32) (i : Int) : Nat → List Value
  | 0 => []
  | n + 1 => zI (sv xs (i + ((n : Int) + 1))) :: avR xs i n
def nz (x : Int) : Int := if x = 0 then 0 else 1
theorem nz01 (x : Int) : nz x = 0 ∨ nz x = 1 := by unfold nz; split <;> simp
abbrev lwA (pc n : Nat) : Prop := ∀ k, k < n → decode code (pc + 5 * k) = .ok (.aload_n 0, 1) ∧ decode code (pc + 5 * k + 1) = .ok (.iload_n 3, 1) ∧ decode code (pc + 5 * k + 2) = .ok (.iconst ((k : Int) + 1), 1) ∧ decode code (pc + 5 * k + 3) = .ok (.iadd, 1) ∧ decode code (pc + 5 * k + 4) = .ok (.iaload, 1)
abbrev lwB (pc : Nat) : Prop := decode code pc = .ok (.ifCond .eq 7, 3) ∧ decode code (pc + 3) = .ok (.iconst 1, 1) ∧ decode code (pc + 4) = .ok (.goto 4, 3) ∧ decode code (pc + 7) = .ok (.iconst 0, 1)
def zQf (φ : Int → Value) (σ : zS) (q : Int → zM → Prop) : zP := fun v σ' M' => σ' = σ ∧ ∃ r : Int, v = some (φ r) ∧ q r M'
def zEf (φ : Int → Value) (g g' : zG) (d d' : zD) (as : List Value) (k : Int) (M1 M2 : zM) : Prop := ∃ q : Int → zM → Prop, zC g d (0, 0) (zA g 1 :: as) (z1 false) M1 (zQf φ (z1 false) q) ∧ ∀ (r : Int) (N1 : zM), q r N1 → ∃ q' : Int → zM → Prop, zC g' d' (0, 0) (zA g' 1 :: as) (z2 false) M2 (zQf φ (z2 false) q') ∧ ∀ (r' : Int) (N2 : zM), q' r' N2 → r = r' ∧ ∃ C R, Jt (k + 1) C R N1 N2
theorem zEs.f {g g' : zG} {d d' : zD} {as : List Value} {k : Int} {M1 M2 : zM} (h : zEs g g' false false d d' as k M1 M2) : zEf zI g g' d d' as k M1 M2 := h
theorem zE.f {g g' : zG} {d d' : zD} {as : List Value} {k : Int} {M1 M2 : zM} (h : zE g g' false false d d' as k M1 M2) : zEf zI g g' d d' as k M1 M2 := zEs.f h.seq
theorem zEl.f {g g' : zG} {d d' : zD} {as : List Value} {k : Int} {M1 M2 : zM} (h : zEl g g' false false d d' as k M1 M2) : zEf zL g g' d d' as k M1 M2 := by
  obtain ⟨q, q', h1, h2, h3⟩ := h
  exact ⟨q, h1, fun r N1 hr => ⟨q', h2, fun r' N2 hr' => h3 r N1 r' N2 hr hr'⟩⟩
section LS
variable {p : Program} {la : Launch} {e : Env} {s : State} {m : MethodId} {below : List Frame} {meth : Method} {c : Code} {b L : Nat} {xs : Nat → Int32} {g g' : zG} {pc idx idx' n : Nat} {l : List (Nat × Value)} {st rest As as : List Value} {M1 M2 N1 N2 : zM} {d d' : zD} {Q' : zP} {i k off : Int} {φ : Int → Value}
theorem LA.B (hA : LA p s m meth c b L xs g g') : lB p s m #[Value.ref b] c := ⟨hA.1.1, hA.1.2.1, hA.1.2.2.2.1, hA.1.2.2.2.2.1, fun w hw => hA.1.2.2.2.2.2.1 w (List.mem_filter.mp hw).1⟩
theorem LA.K' (hA : LA p s m meth c b L xs g g') : va_K g'.2.1 zcls (ztys g') s := by
  have h := hA.2.2.2.2.2.1
  have e := hA.2.2.2.2.1
  unfold ztys at h ⊢
  rw [e]; exact h
theorem LA.X' (hA : LA p s m meth c b L xs g g') : zX g' s := hA.2.2.2.2.2.2.up hA.2.2.2.2.1 (by have := hA.2.2.2.1; omega)
theorem lr_call1 (hA : LA p s m meth c b L xs g g') (hd : decode code pc = .ok (.invokevirtual idx, 3)) (hL : zLv mL d idx n) (hci : RX9 = d.1.cls) (hst : st = As.reverse ++ zA g 1 :: rest) (hn : As.length = n) (hw : (rest.map fun v => v.category).sum ≤ 8)
    (hc : zC g d (0, 0) (zA g 1 :: As) (z1 false) M1 Q') (k : ∀ v σ' N, Q' v σ' N → σ' = z1 false ∧ LR p la e s m below meth c b g g' (pc + 3) l (v.toList ++ rest) N M2) : LR p la e s m below meth c b g g' pc l st M1 M2 := by
  intro H locs ls hS h1 h2 hl
  have s1 := z1_sz h1
  have s2 := z2_sz h2
  have eg := hA.2.2.2.1
  have es := hA.2.2.1
  refine ln_callV (R := room_1) (mm := (0, 0)) (a := 1) (ci := 9) hA.B ⟨Nat.le_refl _, Nat.le_refl _⟩ hA.2.2.2.2.2.1 hA.2.2.2.2.2.2 h1 (by omega) (fun a h h' => hS.2.1 a h h') hl hd hL rfl (by rw [← hci]; rfl) hst hn hw ⟨Nat.le_of_ble_eq_true rfl, Nat.le_of_ble_eq_true rfl⟩ hc (fun v σ' M' H1 locs1 hq hH hz hk hlc => ?_)
  obtain ⟨rfl, kk⟩ := k v σ' M' hq
  refine kk H1 locs1 ls ⟨Nat.le_trans hS.1 hz, fun q z1 z2 => ?_, fun q hq => ?_⟩ hH (h2.stay rfl (fun a a1 a2 => ?_)) hl
  · rw [hk q (Nat.lt_of_lt_of_le z1 hS.1) (fun h => z2 h.1)]; exact hS.2.1 q z1 z2
  · rcases hlc q hq with h | h
    · exact hS.2.2 q h
    · exact h.1
  · rw [z2_ln] at a2
    refine hk _ (by omega) (fun h => ?_)
    have h3 := h.2
    rw [z1_ln] at h3
    rcases h3 with h3 | h3
    · cases h3
    · omega
theorem lr_call2 (hA : LA p s m meth c b L xs g g') (hd : decode code pc = .ok (.invokevirtual idx, 3)) (hL : zLv mL d idx n) (hci : RX10 = d.1.cls) (hst : st = As.reverse ++ zA g' 1 :: rest) (hn : As.length = n) (hw : (rest.map fun v => v.category).sum ≤ 8)
    (hc : zC g' d (0, 0) (zA g' 1 :: As) (z2 false) M2 Q') (k : ∀ v σ' N, Q' v σ' N → σ' = z2 false ∧ LR p la e s m below meth c b g g' (pc + 3) l (v.toList ++ rest) M1 N) : LR p la e s m below meth c b g g' pc l st M1 M2 := by
  intro H locs ls hS h1 h2 hl
  have s1 := z1_sz h1
  have s2 := z2_sz h2
  have eg := hA.2.2.2.1
  have es := hA.2.2.1
  refine ln_callV (R := room_1) (mm := (0, 0)) (a := 1) (ci := 10) hA.B ⟨Nat.le_refl _, Nat.le_refl _⟩ hA.K' hA.X' h2 (by omega) (fun a h h' => hS.2.1 a h (fun z => by have z : g.1 < a := z; omega)) hl hd hL rfl (by rw [← hci]; rfl) hst hn hw ⟨Nat.le_of_ble_eq_true rfl, Nat.le_of_ble_eq_true rfl⟩ hc (fun v σ' M' H1 locs1 hq hH hz hk hlc => ?_)
  obtain ⟨rfl, kk⟩ := k v σ' M' hq
  refine kk H1 locs1 ls ⟨Nat.le_trans hS.1 hz, fun q z1 z2 => ?_, fun q hq => ?_⟩ (h1.stay rfl (fun a a1 a2 => ?_)) hH hl
  · rw [hk q (Nat.lt_of_lt_of_le z1 hS.1) (fun h => z2 (by have := h.1; show g.1 < q; omega))]; exact hS.2.1 q z1 z2
  · rcases hlc q hq with h | h
    · exact hS.2.2 q h
    · have := h.1
      show g.1 < q.base
      omega
  · rw [z1_ln] at a2
    refine hk _ (by omega) (fun h => ?_)
    have := h.1
    omega
theorem lr_arg (hA : LA p s m meth c b L xs g g') {k : Nat} (hi : 0 ≤ i) (hk : i + ((k : Int) + 1) < L) (h0 : decode code pc = .ok (.aload_n 0, 1)) (h1 : decode code (pc + 1) = .ok (.iload_n 3, 1)) (h2 : decode code (pc + 2) = .ok (.iconst ((k : Int) + 1), 1)) (h3 : decode code (pc + 3) = .ok (.iadd, 1)) (h4 : decode code (pc + 4) = .ok (.iaload, 1))
    (kk : LR p la e s m below meth c b g g' (pc + 5) (LL b g g' i) (zI (sv xs (i + ((k : Int) + 1))) :: st) M1 M2) : LR p la e s m below meth c b g g' pc (LL b g g' i) st M1 M2 := by
  intro H locs ls hS w1 w2 hl
  obtain ⟨⟨hx, hb, hr, hml, hown, hts, hX, hbl, hlk, hgv⟩, hL, es, eg, -⟩ := hA
  have kk := kk H locs ls hS w1 w2 hl
  rw [sv_I] at kk
  refine lv_aload_n hx hb h0 rfl (lv_at hl 0 rfl) ?_
  refine lv_iload_n hx hb h1 rfl (lv_at hl 3 rfl) ?_
  refine lv_iconst hx hb h2 rfl ?_
  refine lv_iadd hx hb h3 ?_
  rw [← Int32.ofInt_add]
  refine va_sld (A := fun q => g.1 < q) hx hb hX hbl (by show ¬ g.1 < b; omega) hS (zi_in (by omega) hk (by omega)) h4 ?_
  have he : (Int32.ofInt (i + ((k : Int) + 1))).toNatClampNeg = (i + ((k : Int) + 1)).toNat := zi_nn ⟨by omega, by omega⟩ (by omega)
  rw [he]
  exact kk
theorem lr_args (hA : LA p s m meth c b L xs g g') (hi : 0 ≤ i) (h6 : i + 6 ≤ L) : ∀ (n : Nat), n ≤ 5 → lwA pc n → LR p la e s m below meth c b g g' (pc + 5 * n) (LL b g g' i) (avR xs i n ++ st) M1 M2 → LR p la e s m below meth c b g g' pc (LL b g g' i) st M1 M2 := by
  intro n
  induction n with
  | zero => intro _ _ kk; exact kk
  | succ n ih =>
    intro hn h kk
    obtain ⟨h0, h1, h2, h3, h4⟩ := h n (Nat.lt_succ_self n)
    rw [show pc + 5 * (n + 1) = pc + 5 * n + 5 by omega] at kk
    exact ih (by omega) (fun k hk => h k (Nat.lt_succ_of_lt hk)) (lr_arg hA hi (by omega) h0 h1 h2 h3 h4 kk)
theorem lr_aload (hA : LA p s m meth c b L xs g g') {j : Fin 4} {x : Nat} (q : Nat) (hd : decode code pc = .ok (.aload_n j, 1)) (hq : l[q]? = some ((j : Nat), Value.ref x)) (k : LR p la e s m below meth c b g g' (pc + 1) l (Value.ref x :: st) M1 M2) : LR p la e s m below meth c b g g' pc l st M1 M2 :=
  fun H locs ls hS h1 h2 hl => lv_aload_n hA.1.1 hA.1.2.1 hd rfl (lv_at hl q hq) (k H locs ls hS h1 h2 hl)
theorem lr_bool (hA : LA p s m meth c b L xs g g') {x : Int} (h : lwB pc) (hx : zin x) (k : LR p la e s m below meth c b g g' (pc + 8) l (zI (nz x) :: st) M1 M2) : LR p la e s m below meth c b g g' pc l (zI x :: st) M1 M2 := by
  intro H locs ls hS h1 h2 hl
  have k := k H locs ls hS h1 h2 hl
  refine lv_if_eq (tgt := pc + 7) hA.1.1 hA.1.2.1 h.1 (by omega) (fun z => ?_) (fun z => ?_)
  · have z := (zi_eq hx zin0).mp z
    refine lv_iconst hA.1.1 hA.1.2.1 h.2.2.2 rfl ?_
    unfold nz at k
    rw [if_pos z] at k
    exact k
  · have z : ¬ x = 0 := fun h => z ((zi_eq hx zin0).mpr h)
    refine lv_iconst hA.1.1 hA.1.2.1 h.2.1 rfl ?_
    refine lv_goto (tgt := pc + 8) hA.1.1 hA.1.2.1 h.2.2.1 (by omega) ?_
    unfold nz at k
    rw [if_neg z] at k
    exact k
/-- a case of the switch: push, call, push, call, compare -/
theorem lr_core {pcI pcJ : Nat} (hA : LA p s m meth c b L xs g g') (hn : as.length = n) (hφ : ∀ r, (φ r).category ≤ 2)
    (e1 : LR p la e s m below meth c b g g' pcI (LL b g g' i) (as.reverse ++ [zA g 1]) M1 M2 → LR p la e s m below meth c b g g' pc (LL b g g' i) [] M1 M2)
    (e2 : ∀ (v : Value) (N : zM), LR p la e s m below meth c b g g' pcJ (LL b g g' i) (as.reverse ++ [zA g' 1, v]) N M2 → LR p la e s m below meth c b g g' (pcI + 3) (LL b g g' i) [v] N M2)
    (e3 : ∀ (r : Int) (N1 N2 : zM), LR p la e s m below meth c b g g' 1471 (LL b g g' i) [] N1 N2 → LR p la e s m below meth c b g g' (pcJ + 3) (LL b g g' i) [φ r, φ r] N1 N2)
    (d1 : decode code pcI = .ok (.invokevirtual idx, 3)) (d2 : decode code pcJ = .ok (.invokevirtual idx', 3)) (k1 : zLv mL d idx n) (k2 : zLv mL d' idx' n) (c1 : RX9 = d.1.cls) (c2 : RX10 = d'.1.cls)
    (hE : zEf φ g g' d d' as k M1 M2) (go : ∀ C R N1 N2, Jt (k + 1) C R N1 N2 → LR p la e s m below meth c b g g' 1471 (LL b g g' i) [] N1 N2) : LR p la e s m below meth c b g g' pc (LL b g g' i) [] M1 M2 := by
  obtain ⟨q, hc, hE⟩ := hE
  refine e1 (lr_call1 (As := as) (rest := []) hA d1 k1 c1 rfl hn (Nat.zero_le _) hc (fun v σ' N h => ?_))
  obtain ⟨rfl, r, rfl, hq⟩ := h
  refine ⟨rfl, ?_⟩
  obtain ⟨q', hc', hE⟩ := hE r N hq
  refine e2 (φ r) N (lr_call2 (As := as) (rest := [φ r]) hA d2 k2 c2 rfl hn ?_ hc' (fun v σ' N' h => ?_))
  · have := hφ r
    simp only [List.map_cons, List.map_nil, List.sum_cons, List.sum_nil]
    omega
  · obtain ⟨rfl, r', rfl, hq'⟩ := h
    refine ⟨rfl, ?_⟩
    obtain ⟨rfl, C, R, hJ⟩ := hE r' N' hq'
    exact e3 r N N' (go C R N N' hJ)
theorem lr_eqI (hA : LA p s m meth c b L xs g g') {r : Int} (hd : decode code pc = .ok (.if_icmp .eq off, 3)) (ht : (pc : Int) + off = ((1471 : Nat) : Int)) (k : LR p la e s m below meth c b g g' 1471 l [] M1 M2) : LR p la e s m below meth c b g g' pc l [zI r, zI r] M1 M2 :=
  fun H locs ls hS h1 h2 hl => lv_icmp_eq (tgt := 1471) hA.1.1 hA.1.2.1 hd ht (fun _ => k H locs ls hS h1 h2 hl) (fun z => absurd rfl z)
theorem lr_eqL (hA : LA p s m meth c b L xs g g') {r : Int} (h0 : decode code pc = .ok (.lcmp, 1)) (hd : decode code (pc + 1) = .ok (.ifCond .eq off, 3)) (ht : ((pc + 1 : Nat) : Int) + off = ((1471 : Nat) : Int)) (k : LR p la e s m below meth c b g g' 1471 l [] M1 M2) : LR p la e s m below meth c b g g' pc l [zL r, zL r] M1 M2 :=
  fun H locs ls hS h1 h2 hl => W.lcmp hA.1.1 hA.1.2.1 h0 (lv_if_eq (tgt := 1471) hA.1.1 hA.1.2.1 hd ht (fun _ => k H locs ls hS h1 h2 hl) (fun z => absurd (by simp [lg_cmp]) z))
abbrev lwC (pc n idx idx' : Nat) (off : Int) : Prop := decode code pc = .ok (.aload_n 1, 1) ∧ lwA (pc + 1) n ∧ decode code (pc + 1 + 5 * n) = .ok (.invokevirtual idx, 3) ∧ decode code (pc + 1 + 5 * n + 3) = .ok (.aload_n 2, 1) ∧ lwA (pc + 1 + 5 * n + 4) n ∧ decode code (pc + 1 + 5 * n + 4 + 5 * n) = .ok (.invokevirtual idx', 3) ∧ decode code (pc + 1 + 5 * n + 4 + 5 * n + 3) = .ok (.if_icmp .eq off, 3) ∧ ((pc + 1 + 5 * n + 4 + 5 * n + 3 : Nat) : Int) + off = ((1471 : Nat) : Int)
abbrev lwD (pc n idx idx' : Nat) (off : Int) : Prop := decode code pc = .ok (.aload_n 1, 1) ∧ lwA (pc + 1) n ∧ lwB (pc + 1 + 5 * n) ∧ decode code (pc + 1 + 5 * n + 8) = .ok (.invokevirtual idx, 3) ∧ decode code (pc + 1 + 5 * n + 8 + 3) = .ok (.aload_n 2, 1) ∧ lwA (pc + 1 + 5 * n + 8 + 4) n ∧ lwB (pc + 1 + 5 * n + 8 + 4 + 5 * n) ∧ decode code (pc + 1 + 5 * n + 8 + 4 + 5 * n + 8) = .ok (.invokevirtual idx', 3) ∧ decode code (pc + 1 + 5 * n + 8 + 4 + 5 * n + 8 + 3) = .ok (.if_icmp .eq off, 3) ∧ ((pc + 1 + 5 * n + 8 + 4 + 5 * n + 8 + 3 : Nat) : Int) + off = ((1471 : Nat) : Int)
abbrev lwE (pc n idx idx' : Nat) (off : Int) : Prop := decode code pc = .ok (.aload_n 1, 1) ∧ lwA (pc + 1) n ∧ decode code (pc + 1 + 5 * n) = .ok (.invokevirtual idx, 3) ∧ decode code (pc + 1 + 5 * n + 3) = .ok (.aload_n 2, 1) ∧ lwA (pc + 1 + 5 * n + 4) n ∧ decode code (pc + 1 + 5 * n + 4 + 5 * n) = .ok (.invokevirtual idx', 3) ∧ decode code (pc + 1 + 5 * n + 4 + 5 * n + 3) = .ok (.lcmp, 1) ∧ decode code (pc + 1 + 5 * n + 4 + 5 * n + 3 + 1) = .ok (.ifCond .eq off, 3) ∧ ((pc + 1 + 5 * n + 4 + 5 * n + 3 + 1 : Nat) : Int) + off = ((1471 : Nat) : Int)
theorem lr_caseI (hA : LA p s m meth c b L xs g g') (hi : 0 ≤ i) (h6 : i + 6 ≤ L) (h : lwC pc n idx idx' off) (h5 : n ≤ 5) (ha : as.reverse = avR xs i n) (hn : as.length = n) (k1 : zLv mL d idx n) (k2 : zLv mL d' idx' n) (c1 : RX9 = d.1.cls) (c2 : RX10 = d'.1.cls)
    (hE : zEf zI g g' d d' as k M1 M2) (go : ∀ C R N1 N2, Jt (k + 1) C R N1 N2 → LR p la e s m below meth c b g g' 1471 (LL b g g' i) [] N1 N2) : LR p la e s m below meth c b g g' pc (LL b g g' i) [] M1 M2 := by
  obtain ⟨h1, h2, h3, h4, h5', h6', h7, h8⟩ := h
  refine lr_core (pcI := pc + 1 + 5 * n) (pcJ := pc + 1 + 5 * n + 4 + 5 * n) (φ := zI) hA hn (fun r => Nat.le_of_ble_eq_true rfl) (fun z => ?_) (fun v N z => ?_) (fun r N1 N2 z => lr_eqI hA h7 h8 z) h3 h6' k1 k2 c1 c2 hE go
  · rw [ha] at z
    exact lr_aload hA 1 h1 rfl (lr_args hA hi h6 n h5 h2 z)
  · rw [ha] at z
    exact lr_aload hA 2 h4 rfl (lr_args hA hi h6 n h5 h5' z)
theorem lr_caseL (hA : LA p s m meth c b L xs g g') (hi : 0 ≤ i) (h6 : i + 6 ≤ L) (h : lwE pc n idx idx' off) (h5 : n ≤ 5) (ha : as.reverse = avR xs i n) (hn : as.length = n) (k1 : zLv mL d idx n) (k2 : zLv mL d' idx' n) (c1 : RX9 = d.1.cls) (c2 : RX10 = d'.1.cls)
    (hE : zEf zL g g' d d' as k M1 M2) (go : ∀ C R N1 N2, Jt (k + 1) C R N1 N2 → LR p la e s m below meth c b g g' 1471 (LL b g g' i) [] N1 N2) : LR p la e s m below meth c b g g' pc (LL b g g' i) [] M1 M2 := by
  obtain ⟨h1, h2, h3, h4, h5', h6', h7, h8, h9⟩ := h
  refine lr_core (pcI := pc + 1 + 5 * n) (pcJ := pc + 1 + 5 * n + 4 + 5 * n) (φ := zL) hA hn (fun r => Nat.le_of_ble_eq_true rfl) (fun z => ?_) (fun v N z => ?_) (fun r N1 N2 z => lr_eqL hA h7 h8 h9 z) h3 h6' k1 k2 c1 c2 hE go
  · rw [ha] at z
    exact lr_aload hA 1 h1 rfl (lr_args hA hi h6 n h5 h2 z)
  · rw [ha] at z
    exact lr_aload hA 2 h4 rfl (lr_args hA hi h6 n h5 h5' z)
theorem lr_caseB (hA : LA p s m meth c b L xs g g') (hi : 0 ≤ i) (h6 : i + 6 ≤ L) (h : lwD pc (n + 1) idx idx' off) (h5 : n + 1 ≤ 5) (ha : as.reverse = zI (nz (sv xs (i + ((n : Int) + 1)))) :: avR xs i n) (hn : as.length = n + 1) (k1 : zLv mL d idx (n + 1)) (k2 : zLv mL d' idx' (n + 1)) (c1 : RX9 = d.1.cls) (c2 : RX10 = d'.1.cls)
    (hE : zEf zI g g' d d' as k M1 M2) (go : ∀ C R N1 N2, Jt (k + 1) C R N1 N2 → LR p la e s m below meth c b g g' 1471 (LL b g g' i) [] N1 N2) : LR p la e s m below meth c b g g' pc (LL b g g' i) [] M1 M2 := by
  obtain ⟨h1, h2, h2b, h3, h4, h5', h5b, h6', h7, h8⟩ := h
  refine lr_core (pcI := pc + 1 + 5 * (n + 1) + 8) (pcJ := pc + 1 + 5 * (n + 1) + 8 + 4 + 5 * (n + 1) + 8) (φ := zI) hA hn (fun r => Nat.le_of_ble_eq_true rfl) (fun z => ?_) (fun v N z => ?_) (fun r N1 N2 z => lr_eqI hA h7 h8 z) h3 h6' k1 k2 c1 c2 hE go
  · rw [ha] at z
    exact lr_aload hA 1 h1 rfl (lr_args hA hi h6 (n + 1) h5 h2 (lr_bool hA h2b (sv_in _ _) z))
  · rw [ha] at z
    exact lr_aload hA 2 h4 rfl (lr_args hA hi h6 (n + 1) h5 h5' (lr_bool hA h5b (sv_in _ _) z))
end LS
