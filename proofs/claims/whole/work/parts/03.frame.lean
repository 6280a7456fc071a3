/-! worlds of Ints: an address a stands for the cell g.1 + a; zh: its kind (0 object of a class, 1 ints, 2 booleans, 3 longs, 4 Sands; 9 none) and class or length; references of fields in the signature, all else in the memory -/
abbrev zG : Type := Nat × va_G × (Nat → ClassId) × (Nat → Nat)
abbrev zM : Type := Nat → Int → Int
abbrev zS : Type := Bool × List (Nat × Nat) × (Nat → Nat → Nat)
/-- a method: name, code, locals, what it returns, frames and words below it -/
abbrev zD : Type := MethodName × ByteArray × Nat × Option FieldType × Nat × Nat
def zI (x : Int) : Value := .int (Int32.ofInt x)
def zL (x : Int) : Value := .long (Int64.ofInt x)
def zA (g : zG) (a : Nat) : Value := .ref (g.1 + a)
def zN (g : zG) (a : Nat) : Value := if a = 0 then .null else .ref (g.1 + a)
def zh (σ : zS) (a : Nat) : Nat × Nat := match a with
  | 0 => (9, 0)
  | k + 1 => σ.2.1.getD k (9, 0)
def zfv (g : zG) (kd F : Nat) (x : Int) : Value := match kd with
  | 0 => zI x
  | 1 => zL x
  | 3 => zI x
  | _ => zN g F
def zev (g : zG) (kd : Nat) (x : Int) : Value := match kd with
  | 1 => zI x
  | 2 => zI x
  | 3 => zL x
  | _ => zN g x.toNat
def zcell (g : zG) (σ : zS) (M : zM) (a : Nat) (H : Heap) : Prop :=
  if (zh σ a).1 = 0 then ∃ r : vw_C, zcls[(zh σ a).2]? = some r ∧ t_OB (g.1 + a) (g.2.1.1 (zh σ a).2) r.2.2 (g.2.1.2 (zh σ a).2) H (fun k => zfv g (zfk (zh σ a).2 k) (σ.2.2 a k) (M a (k : Int)))
  else if (zh σ a).1 = 9 then True else H[g.1 + a]? = some (arrV (g.2.2.1 (zh σ a).1) (zh σ a).2 (fun j => zev g (zh σ a).1 (M a (j : Int))))
def zH (g : zG) (σ : zS) (M : zM) (H : Heap) : Prop := (∀ a, zcell g σ M a H) ∧ (σ.1 = true → H.size = g.1 + σ.2.1.length + 1)
def zAg (g : zG) (σ : zS) : Nat → Prop := fun q => g.1 < q ∧ (σ.1 = true ∨ q ≤ g.1 + σ.2.1.length)
def zu (M : zM) (a : Nat) (i x : Int) : zM := fun b j => if b = a ∧ j = i then x else M b j
def ztys (g : zG) : List (ClassId × FieldType) := [(g.2.2.1 1, .int), (g.2.2.1 2, .boolean), (g.2.2.1 3, .long), (g.2.2.1 4, .object "SandMarch$Sand")]
def zty (kd : Nat) : FieldType := match kd with
  | 1 => .int
  | 2 => .boolean
  | 3 => .long
  | _ => .object "SandMarch$Sand"
def znm : List (String × Nat × MethodName) := [(RX9, 9, yX8_init), (RX9, 27, yX2_init), (RX9, 34, yX5_init), (RX1, 24, yX5_init)]
def znf : List (String × Nat × String) := [(RX4, 141, "RULE_LEAST"), (RX4, 144, "RULE_MOST")]
/-- what is old and stays: static arrays, the text of the words -/
def zX (g : zG) (U : State) : Prop :=
  va_Z "SandMarch" "RULE_LEAST" "[I" (.ref (g.2.2.2 0)) (fun q => g.1 < q) U U.heap ∧ va_T .int (g.2.2.2 0) 4 (fun j => zI ([1, 1, 0, 0].getD j 0)) (fun q => g.1 < q) U U.heap ∧
  va_Z "SandMarch" "RULE_MOST" "[I" (.ref (g.2.2.2 1)) (fun q => g.1 < q) U U.heap ∧ va_T .int (g.2.2.2 1) 4 (fun j => zI ([6, 9, 16, 16].getD j 0)) (fun q => g.1 < q) U U.heap ∧
  va_Z "java/lang/String" "COMPACT_STRINGS" "Z" (.int 1) (fun q => g.1 < q) U U.heap ∧ va_Zq "jdk/internal/util/Preconditions" "SIOOBE_FORMATTER" "Ljava/util/function/BiFunction;" (fun q => g.1 < q) U U.heap ∧
  vk_R "SandMarch$Tape" 56 ztx (g.2.2.2 2) U ∧ vk_S 1 [ztb.length] [ztb] (fun _ => g.2.2.2 2) (fun _ => g.2.2.2 3) (fun q => g.1 < q) U U.heap ∧
  va_AO "SandMarch$Sand" U ∧ (∀ w ∈ znm, va_Nw (.methodLinkNest w.1 w.2.1 w.2.2 "SandMarch") U) ∧ ∀ w ∈ znf, va_Nw (.fieldLinkNest w.1 w.2.1 "SandMarch" w.2.2 "[I" "SandMarch") U
/-- the tables' words that last -/
def zt : List Cond := lw_tbl.filter goodWord
theorem zm {w : Cond} (i : Nat) (h : lw_tbl[i]? = some w) (hg : goodWord w = true) : w ∈ zt := List.mem_filter.mpr ⟨List.mem_of_getElem? h, hg⟩
def zw (d : zD) : List Cond := Cond.code d.1 d.2.1 d.2.2.1 d.2.2.2.1 :: zt
def zrm (d : zD) (mm : Nat × Nat) : Room := { frames := d.2.2.2.2.1, cells := mm.1, slots := mm.2, locals := d.2.2.2.2.2 }
def zWd (g : zG) (σ : zS) (M : zM) (U : State) : Prop := zH g σ M U.heap ∧ va_K g.2.1 zcls (ztys g) U ∧ zX g U ∧ g.1 < U.heap.size
abbrev zP : Type := Option Value → zS → zM → Prop
def zQ (g : zG) (σ : zS) (Q : zP) : Array Value → State → Outcome → State → Prop := fun _ st oc t => (∃ (v : Option Value) (σ' : zS) (M' : zM), oc = .returned v ∧ Q v σ' M' ∧ zH g σ' M' t.heap ∧ zAg g σ' = zAg g σ) ∧ va_F (zAg g σ) st t
/-- a call: from every machine that holds the world, the method returns, and Q -/
def zC (g : zG) (d : zD) (mm : Nat × Nat) (as : List Value) (σ : zS) (M : zM) (Q : zP) : Prop := ∀ l : Launch, Met l d.1 (zw d) (zrm d mm) (va_Pc as (zWd g σ M)) (zQ g σ Q) mm.1 mm.2 (zAg g σ)
def zB (g : zG) (d : zD) (p : Program) (s : State) (m : MethodId) (args : Array Value) (meth : Method) (c : Code) : Prop :=
  p.tables.exec = Jvm.exec ∧ c.code = d.2.1 ∧ c.maxLocals = d.2.2.1 ∧ meth.sig.returnType = d.2.2.2.1 ∧ meth.locks = false ∧ s.vm.findClass d.1.cls = some m.cls ∧ (∀ w ∈ zt, w.before args s = true) ∧ meth.name = d.1.name ∧ va_K g.2.1 zcls (ztys g) s ∧ zX g s ∧ g.1 < s.heap.size
/-- the machine inside a method: at pc, these locals known, this stack, this world: it returns, and Q -/
def zR (g : zG) (d : zD) (mm : Nat × Nat) (σ0 : zS) (Q : zP) (pc : Nat) (l : List (Nat × Value)) (st : List Value) (kw : Nat × Nat) (σ : zS) (M : zM) : Prop :=
  ∀ (la : Launch) (p : Program) (e : Env) (s : State) (m : MethodId) (args : Array Value) (below : List Frame) (meth : Method) (c : Code), zB g d p s m args meth c →
  ∀ (H : Heap) (locs : List Loc) (ls : Array Slot), zAg g σ = zAg g σ0 → va_S (zAg g σ0) s.heap H locs → zH g σ M H → lv_has ls d.2.2.1 l →
  W p la e (zrm d mm) s m args below meth c H locs kw.1 kw.2 (MQ below (zQ g σ0 Q) args s mm.1 mm.2 (zAg g σ0)) (F0 m pc ls st)
section ZR
variable {g : zG} {d : zD} {mm kw : Nat × Nat} {σ0 σ : zS} {Q : zP} {pc pc' : Nat} {l l' : List (Nat × Value)} {st st' : List Value} {M : zM}
/-- fewer known locals -/
theorem zr_sub (ks : List Nat) (h : lv_pick l ks = l') (k : zR g d mm σ0 Q pc l' st kw σ M) : zR g d mm σ0 Q pc l st kw σ M :=
  fun la p e s m args below meth c B H locs ls hA hS hH hl => k la p e s m args below meth c B H locs ls hA hS hH (lv_sub hl ks h)
/-- an instruction that changes the stack alone -/
theorem zr_st (h : ∀ {p : Program} {la : Launch} {e : Env} {R : Room} {s : State} {m : MethodId} {args : Array Value} {below : List Frame} {meth : Method} {c : Code} {H : Heap} {locs : List Loc} {cells slots : Nat} {Q : State → Prop} {ls : Array Slot}, zB g d p s m args meth c → lv_has ls d.2.2.1 l → W p la e R s m args below meth c H locs cells slots Q (F0 m pc' ls st') → W p la e R s m args below meth c H locs cells slots Q (F0 m pc ls st))
    (k : zR g d mm σ0 Q pc' l st' kw σ M) : zR g d mm σ0 Q pc l st kw σ M :=
  fun la p e s m args below meth c B H locs ls hA hS hH hl => h B hl (k la p e s m args below meth c B H locs ls hA hS hH hl)
theorem zr_iconst {n : Int} (hd : decode d.2.1 pc = .ok (.iconst n, 1)) (k : zR g d mm σ0 Q (pc + 1) l (zI n :: st) kw σ M) : zR g d mm σ0 Q pc l st kw σ M :=
  zr_st (fun B hl k => lv_iconst B.1 B.2.1 hd rfl k) k
theorem zr_bipush {n : Int} (hd : decode d.2.1 pc = .ok (.bipush n, 2)) (hn : (Int8.ofInt n).toInt32 = Int32.ofInt n) (k : zR g d mm σ0 Q (pc + 2) l (zI n :: st) kw σ M) : zR g d mm σ0 Q pc l st kw σ M :=
  zr_st (fun B hl k => lv_bipush B.1 B.2.1 hd hn k) k
theorem zr_sipush {n : Int} (hd : decode d.2.1 pc = .ok (.sipush n, 3)) (hn : (Int16.ofInt n).toInt32 = Int32.ofInt n) (k : zR g d mm σ0 Q (pc + 3) l (zI n :: st) kw σ M) : zR g d mm σ0 Q pc l st kw σ M :=
  zr_st (fun B hl k => lv_sipush B.1 B.2.1 hd hn k) k
theorem zr_iload_n {j : Fin 4} {x : Int} (q : Nat) (hd : decode d.2.1 pc = .ok (.iload_n j, 1)) (hl : l[q]? = some ((j : Nat), zI x)) (k : zR g d mm σ0 Q (pc + 1) l (zI x :: st) kw σ M) : zR g d mm σ0 Q pc l st kw σ M :=
  zr_st (fun B hv k => lv_iload_n B.1 B.2.1 hd rfl (lv_at hv q hl) k) k
theorem zr_iload {j : Nat} {x : Int} (q : Nat) (hd : decode d.2.1 pc = .ok (.iload j, 2)) (hl : l[q]? = some (j, zI x)) (k : zR g d mm σ0 Q (pc + 2) l (zI x :: st) kw σ M) : zR g d mm σ0 Q pc l st kw σ M :=
  zr_st (fun B hv k => lv_iload B.1 B.2.1 hd (lv_at hv q hl) k) k
theorem zr_lload_n {j : Fin 4} {x : Int} (q : Nat) (hd : decode d.2.1 pc = .ok (.lload_n j, 1)) (hl : l[q]? = some ((j : Nat), zL x)) (k : zR g d mm σ0 Q (pc + 1) l (zL x :: st) kw σ M) : zR g d mm σ0 Q pc l st kw σ M :=
  zr_st (fun B hv k => lv_lload_n B.1 B.2.1 hd rfl (lv_at hv q hl) k) k
theorem zr_lload {j : Nat} {x : Int} (q : Nat) (hd : decode d.2.1 pc = .ok (.lload j, 2)) (hl : l[q]? = some (j, zL x)) (k : zR g d mm σ0 Q (pc + 2) l (zL x :: st) kw σ M) : zR g d mm σ0 Q pc l st kw σ M :=
  zr_st (fun B hv k => lv_lload B.1 B.2.1 hd (lv_at hv q hl) k) k
theorem zr_aload_n {j : Fin 4} {x : Nat} (q : Nat) (hd : decode d.2.1 pc = .ok (.aload_n j, 1)) (hl : l[q]? = some ((j : Nat), zA g x)) (k : zR g d mm σ0 Q (pc + 1) l (zA g x :: st) kw σ M) : zR g d mm σ0 Q pc l st kw σ M :=
  zr_st (fun B hv k => lv_aload_n B.1 B.2.1 hd rfl (lv_at hv q hl) k) k
theorem zr_aload {j : Nat} {x : Nat} (q : Nat) (hd : decode d.2.1 pc = .ok (.aload j, 2)) (hl : l[q]? = some (j, zA g x)) (k : zR g d mm σ0 Q (pc + 2) l (zA g x :: st) kw σ M) : zR g d mm σ0 Q pc l st kw σ M :=
  zr_st (fun B hv k => lv_aload B.1 B.2.1 hd (lv_at hv q hl) k) k
theorem zr_iadd {x y : Int} (hd : decode d.2.1 pc = .ok (.iadd, 1)) (k : zR g d mm σ0 Q (pc + 1) l (zI (x + y) :: st) kw σ M) : zR g d mm σ0 Q pc l (zI y :: zI x :: st) kw σ M :=
  zr_st (fun B hl k => lv_iadd B.1 B.2.1 hd (by rw [← Int32.ofInt_add]; exact k)) k
theorem zr_isub {x y : Int} (hd : decode d.2.1 pc = .ok (.isub, 1)) (k : zR g d mm σ0 Q (pc + 1) l (zI (x - y) :: st) kw σ M) : zR g d mm σ0 Q pc l (zI y :: zI x :: st) kw σ M :=
  zr_st (fun B hl k => lv_isub B.1 B.2.1 hd (by rw [← Int32.ofInt_sub]; exact k)) k
theorem zr_imul {x y : Int} (hd : decode d.2.1 pc = .ok (.imul, 1)) (k : zR g d mm σ0 Q (pc + 1) l (zI (x * y) :: st) kw σ M) : zR g d mm σ0 Q pc l (zI y :: zI x :: st) kw σ M :=
  zr_st (fun B hl k => lv_imul B.1 B.2.1 hd (by rw [← Int32.ofInt_mul]; exact k)) k
theorem zr_goto {off : Int} {tgt : Nat} (hd : decode d.2.1 pc = .ok (.goto off, 3)) (ht : (pc : Int) + off = (tgt : Int)) (k : zR g d mm σ0 Q tgt l st kw σ M) : zR g d mm σ0 Q pc l st kw σ M :=
  zr_st (fun B hl k => lv_goto B.1 B.2.1 hd ht k) k
end ZR
