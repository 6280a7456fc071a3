/-! the law: the heads of the skeleton, links -/
def R_law : String := "SandMarchLaw"
def lw_P (b : Addr) (xs : List Int32) (args : Array Value) (s : State) : Prop := args = #[.ref b] ∧ s.IntsAt b xs ∧ xs.length ≤ 3072 ∧ (Jvm.Cond.and given_1 narrow_1).before args s = true
def lw_Q (_ : Array Value) (s : State) (o : Outcome) (t : State) : Prop := o = .returned (some (.int 1)) ∧ Framed s o t [] 600000 7302250
def lw_Z (below : List Frame) (a : Array Value) (s : State) : State → Prop := fun t => ∃ o, t.status = .running ∧ Ended t below o ∧ lw_Q a s o t
/-- the law's own end, with 1 on the stack, nothing written that was there before, its room as the claim has it -/
theorem lw_ret {p : Program} {l : Launch} {e : Env} {s : State} {m : MethodId} {below : List Frame} {meth : Method} {c : Code} {b : Nat} (hx : p.tables.exec = Jvm.exec) (hb : c.code = code) (hr : meth.sig.returnType = ret) (hlocks : meth.locks = false) {pc : Nat} {H : Heap} {ls : Array Slot} (hdg : decode code pc = .ok (.ireturn, 1)) : W p l e room_1 s m #[Value.ref b] below meth c H [] 600000 7302250 (lw_Z below #[Value.ref b] s) (F0 m pc ls [.int 1]) := by
  intro T hT X
  obtain ⟨fs, hret, hrun, hended, hW, hframe⟩ := X.leave (v := some (.int 1)) (hlocks := hlocks) (fun h => by rw [hr] at h; cases h)
  have hmeth' : T.vm.method? m = some meth := X.method'
  refine ⟨T.setFrames fs, ?_, .returned (some (.int 1)), hrun, hended, rfl, ⟨_, rfl⟩, hW, hframe⟩
  jvm_step X.here [X.here.top, hx, hb, hdg, hmeth', hr, ret, narrow_b1]
  (try refine ⟨rfl, ?_⟩); (try refine ⟨rfl, ?_⟩)
  first | (intro acts; rw [hret _ acts rfl rfl rfl]) | rw [hret _ _ rfl rfl rfl]
  exact Steps.refl _
/-- what holds at the law's entry: the machine, the code, the tables' words (any of lw_tbl by 'hts w (by decide +kernel)'), the script of L ints xs at the cell b, what the Statement gives of the start (any of its parts by flat_of_before) -/
def lw_At (p : Program) (s : State) (m : MethodId) (meth : Method) (c : Code) (b L : Nat) (xs : Nat → Int32) : Prop :=
  p.tables.exec = Jvm.exec ∧ c.code = code ∧ meth.sig.returnType = ret ∧ c.maxLocals = 4 ∧ s.vm.findClass R_law = some m.cls ∧ (∀ w ∈ lw_tbl, w.before #[Value.ref b] s = true) ∧ va_X b L xs s s.heap ∧ b < s.heap.size ∧ meth.locks = false ∧ (Jvm.Cond.and given_1 narrow_1).before #[Value.ref b] s = true
theorem nd9 (g : zG) : ∀ k, k < 16 → defaultValue (tyX9 k) = zfv g (zfk 9 k) 0 0 := by
  intro k hk
  match k, hk with
  | 0, _ => rfl
  | 1, _ => rfl
  | 2, _ => rfl
  | 3, _ => rfl
  | 4, _ => rfl
  | 5, _ => rfl
  | 6, _ => rfl
  | 7, _ => rfl
  | 8, _ => rfl
  | 9, _ => rfl
  | 10, _ => rfl
  | 11, _ => rfl
  | 12, _ => rfl
  | 13, _ => rfl
  | 14, _ => rfl
  | 15, _ => rfl
  | k + 16, hk => omega
theorem nd10 (g : zG) : ∀ k, k < 46 → defaultValue (tyX10 k) = zfv g (zfk 10 k) 0 0 := by
  intro k hk
  match k, hk with
  | 0, _ => rfl
  | 1, _ => rfl
  | 2, _ => rfl
  | 3, _ => rfl
  | 4, _ => rfl
  | 5, _ => rfl
  | 6, _ => rfl
  | 7, _ => rfl
  | 8, _ => rfl
  | 9, _ => rfl
  | 10, _ => rfl
  | 11, _ => rfl
  | 12, _ => rfl
  | 13, _ => rfl
  | 14, _ => rfl
  | 15, _ => rfl
  | 16, _ => rfl
  | 17, _ => rfl
  | 18, _ => rfl
  | 19, _ => rfl
  | 20, _ => rfl
  | 21, _ => rfl
  | 22, _ => rfl
  | 23, _ => rfl
  | 24, _ => rfl
  | 25, _ => rfl
  | 26, _ => rfl
  | 27, _ => rfl
  | 28, _ => rfl
  | 29, _ => rfl
  | 30, _ => rfl
  | 31, _ => rfl
  | 32, _ => rfl
  | 33, _ => rfl
  | 34, _ => rfl
  | 35, _ => rfl
  | 36, _ => rfl
  | 37, _ => rfl
  | 38, _ => rfl
  | 39, _ => rfl
  | 40, _ => rfl
  | 41, _ => rfl
  | 42, _ => rfl
  | 43, _ => rfl
  | 44, _ => rfl
  | 45, _ => rfl
  | k + 46, hk => omega
theorem nwL_7 : zLn mL 7 9 16 := ⟨(RX9, TX9, 16), rfl, rfl, iX9, ⟨tyX9, tyX9_ok, fun g k hk => nd9 g k hk⟩, zc1 20 (by decide +kernel) rfl, zc1 21 (by decide +kernel) rfl, zc1 1 (by decide +kernel) rfl⟩
theorem nwL_10 : zLn mL 10 10 46 := ⟨(RX10, TX10, 46), rfl, rfl, iX10, ⟨tyX10, tyX10_ok, fun g k hk => nd10 g k hk⟩, zc5 91 (by decide +kernel) rfl, zc5 92 (by decide +kernel) rfl, zc1 13 (by decide +kernel) rfl⟩
theorem kL_9 : zLi mL mX9_init 9 0 := ⟨⟨bX9_init.1, bX9_init.2.1, bX9_init.2.2, by decide, by decide⟩, zc1 22 (by decide +kernel) rfl, zc1 23 (by decide +kernel) rfl, rfl, rfl⟩
theorem kL_12 : zLi mL mX10_init 12 0 := ⟨⟨bX10_init.1, bX10_init.2.1, bX10_init.2.2, by decide, by decide⟩, zc5 93 (by decide +kernel) rfl, zc5 94 (by decide +kernel) rfl, rfl, rfl⟩
theorem kL_13 : zLv mL mX9_feed 13 5 := ⟨⟨bX9_feed.1, bX9_feed.2.1, bX9_feed.2.2, by decide, by decide⟩, zc2 226 (by decide +kernel) rfl, zc2 227 (by decide +kernel) rfl, zc2 228 (by decide +kernel) rfl⟩
theorem kL_17 : zLv mL mX10_feed 17 5 := ⟨⟨bX10_feed.1, bX10_feed.2.1, bX10_feed.2.2, by decide, by decide⟩, zc6 43 (by decide +kernel) rfl, zc6 44 (by decide +kernel) rfl, zc6 45 (by decide +kernel) rfl⟩
theorem kL_18 : zLv mL mX9_end 18 1 := ⟨⟨bX9_end.1, bX9_end.2.1, bX9_end.2.2, by decide, by decide⟩, zc2 234 (by decide +kernel) rfl, zc2 235 (by decide +kernel) rfl, zc2 236 (by decide +kernel) rfl⟩
theorem kL_22 : zLv mL mX10_end 22 1 := ⟨⟨bX10_end.1, bX10_end.2.1, bX10_end.2.2, by decide, by decide⟩, zc6 51 (by decide +kernel) rfl, zc6 52 (by decide +kernel) rfl, zc6 53 (by decide +kernel) rfl⟩
theorem kL_23 : zLv mL mX9_field 23 0 := ⟨⟨bX9_field.1, bX9_field.2.1, bX9_field.2.2, by decide, by decide⟩, zc2 238 (by decide +kernel) rfl, zc2 239 (by decide +kernel) rfl, zc3 0 (by decide +kernel) rfl⟩
theorem kL_27 : zLv mL mX10_field 27 0 := ⟨⟨bX10_field.1, bX10_field.2.1, bX10_field.2.2, by decide, by decide⟩, zc6 58 (by decide +kernel) rfl, zc6 59 (by decide +kernel) rfl, zc6 60 (by decide +kernel) rfl⟩
theorem kL_28 : zLv mL mX9_fault 28 1 := ⟨⟨bX9_fault.1, bX9_fault.2.1, bX9_fault.2.2, by decide, by decide⟩, zc3 154 (by decide +kernel) rfl, zc3 155 (by decide +kernel) rfl, zc3 156 (by decide +kernel) rfl⟩
theorem kL_31 : zLv mL mX10_fault 31 1 := ⟨⟨bX10_fault.1, bX10_fault.2.1, bX10_fault.2.2, by decide, by decide⟩, zc6 147 (by decide +kernel) rfl, zc6 148 (by decide +kernel) rfl, zc6 149 (by decide +kernel) rfl⟩
theorem kL_32 : zLv mL mX9_cell 32 2 := ⟨⟨bX9_cell.1, bX9_cell.2.1, bX9_cell.2.2, by decide, by decide⟩, zc3 158 (by decide +kernel) rfl, zc3 159 (by decide +kernel) rfl, zc3 160 (by decide +kernel) rfl⟩
theorem kL_36 : zLv mL mX10_cell 36 2 := ⟨⟨bX10_cell.1, bX10_cell.2.1, bX10_cell.2.2, by decide, by decide⟩, zc7 16 (by decide +kernel) rfl, zc7 17 (by decide +kernel) rfl, zc7 18 (by decide +kernel) rfl⟩
theorem kL_37 : zLv mL mX9_beside 37 2 := ⟨⟨bX9_beside.1, bX9_beside.2.1, bX9_beside.2.2, by decide, by decide⟩, zc3 194 (by decide +kernel) rfl, zc3 195 (by decide +kernel) rfl, zc3 196 (by decide +kernel) rfl⟩
theorem kL_40 : zLv mL mX10_beside 40 2 := ⟨⟨bX10_beside.1, bX10_beside.2.1, bX10_beside.2.2, by decide, by decide⟩, zc7 31 (by decide +kernel) rfl, zc7 32 (by decide +kernel) rfl, zc7 33 (by decide +kernel) rfl⟩
theorem kL_41 : zLv mL mX9_wind 41 1 := ⟨⟨bX9_wind.1, bX9_wind.2.1, bX9_wind.2.2, by decide, by decide⟩, zc3 198 (by decide +kernel) rfl, zc3 199 (by decide +kernel) rfl, zc3 200 (by decide +kernel) rfl⟩
theorem kL_44 : zLv mL mX10_wind 44 1 := ⟨⟨bX10_wind.1, bX10_wind.2.1, bX10_wind.2.2, by decide, by decide⟩, zc7 35 (by decide +kernel) rfl, zc7 36 (by decide +kernel) rfl, zc7 37 (by decide +kernel) rfl⟩
theorem kL_45 : zLv mL mX9_blow 45 1 := ⟨⟨bX9_blow.1, bX9_blow.2.1, bX9_blow.2.2, by decide, by decide⟩, zc3 202 (by decide +kernel) rfl, zc3 203 (by decide +kernel) rfl, zc3 204 (by decide +kernel) rfl⟩
theorem kL_48 : zLv mL mX10_blow 48 1 := ⟨⟨bX10_blow.1, bX10_blow.2.1, bX10_blow.2.2, by decide, by decide⟩, zc6 163 (by decide +kernel) rfl, zc6 164 (by decide +kernel) rfl, zc6 165 (by decide +kernel) rfl⟩
theorem kL_49 : zLv mL mX9_put 49 2 := ⟨⟨bX9_put.1, bX9_put.2.1, bX9_put.2.2, by decide, by decide⟩, zc4 16 (by decide +kernel) rfl, zc4 17 (by decide +kernel) rfl, zc4 18 (by decide +kernel) rfl⟩
theorem kL_52 : zLv mL mX10_put 52 2 := ⟨⟨bX10_put.1, bX10_put.2.1, bX10_put.2.2, by decide, by decide⟩, zc6 229 (by decide +kernel) rfl, zc6 230 (by decide +kernel) rfl, zc6 231 (by decide +kernel) rfl⟩
theorem kL_53 : zLv mL mX9_take 53 1 := ⟨⟨bX9_take.1, bX9_take.2.1, bX9_take.2.2, by decide, by decide⟩, zc4 21 (by decide +kernel) rfl, zc4 22 (by decide +kernel) rfl, zc4 23 (by decide +kernel) rfl⟩
theorem kL_56 : zLv mL mX10_take 56 1 := ⟨⟨bX10_take.1, bX10_take.2.1, bX10_take.2.2, by decide, by decide⟩, zc6 237 (by decide +kernel) rfl, zc6 238 (by decide +kernel) rfl, zc6 239 (by decide +kernel) rfl⟩
theorem kL_57 : zLv mL mX9_sow 57 2 := ⟨⟨bX9_sow.1, bX9_sow.2.1, bX9_sow.2.2, by decide, by decide⟩, zc4 26 (by decide +kernel) rfl, zc4 27 (by decide +kernel) rfl, zc4 28 (by decide +kernel) rfl⟩
theorem kL_61 : zLv mL mX10_sow 61 2 := ⟨⟨bX10_sow.1, bX10_sow.2.1, bX10_sow.2.2, by decide, by decide⟩, zc7 1 (by decide +kernel) rfl, zc7 2 (by decide +kernel) rfl, zc7 3 (by decide +kernel) rfl⟩
theorem kL_62 : zLv mL mX9_turn 62 2 := ⟨⟨bX9_turn.1, bX9_turn.2.1, bX9_turn.2.2, by decide, by decide⟩, zc4 34 (by decide +kernel) rfl, zc4 35 (by decide +kernel) rfl, zc4 36 (by decide +kernel) rfl⟩
theorem kL_65 : zLv mL mX10_turn 65 2 := ⟨⟨bX10_turn.1, bX10_turn.2.1, bX10_turn.2.2, by decide, by decide⟩, zc7 9 (by decide +kernel) rfl, zc7 10 (by decide +kernel) rfl, zc7 11 (by decide +kernel) rfl⟩
theorem kL_66 : zLv mL mX9_undo 66 0 := ⟨⟨bX9_undo.1, bX9_undo.2.1, bX9_undo.2.2, by decide, by decide⟩, zc4 40 (by decide +kernel) rfl, zc4 41 (by decide +kernel) rfl, zc4 42 (by decide +kernel) rfl⟩
theorem kL_70 : zLv mL mX10_undo 70 0 := ⟨⟨bX10_undo.1, bX10_undo.2.1, bX10_undo.2.2, by decide, by decide⟩, zc6 151 (by decide +kernel) rfl, zc6 152 (by decide +kernel) rfl, zc6 153 (by decide +kernel) rfl⟩
theorem kL_71 : zLv mL mX9_redo 71 0 := ⟨⟨bX9_redo.1, bX9_redo.2.1, bX9_redo.2.2, by decide, by decide⟩, zc4 48 (by decide +kernel) rfl, zc4 49 (by decide +kernel) rfl, zc4 50 (by decide +kernel) rfl⟩
theorem kL_74 : zLv mL mX10_redo 74 0 := ⟨⟨bX10_redo.1, bX10_redo.2.1, bX10_redo.2.2, by decide, by decide⟩, zc6 159 (by decide +kernel) rfl, zc6 160 (by decide +kernel) rfl, zc6 161 (by decide +kernel) rfl⟩
theorem kL_75 : zLv mL mX9_all 75 1 := ⟨⟨bX9_all.1, bX9_all.2.1, bX9_all.2.2, by decide, by decide⟩, zc4 56 (by decide +kernel) rfl, zc4 57 (by decide +kernel) rfl, zc4 58 (by decide +kernel) rfl⟩
theorem kL_78 : zLv mL mX10_all 78 1 := ⟨⟨bX10_all.1, bX10_all.2.1, bX10_all.2.2, by decide, by decide⟩, zc7 39 (by decide +kernel) rfl, zc7 40 (by decide +kernel) rfl, zc7 41 (by decide +kernel) rfl⟩
theorem kL_79 : zLv mL mX9_skyline 79 2 := ⟨⟨bX9_skyline.1, bX9_skyline.2.1, bX9_skyline.2.2, by decide, by decide⟩, zc4 93 (by decide +kernel) rfl, zc4 94 (by decide +kernel) rfl, zc4 95 (by decide +kernel) rfl⟩
theorem kL_82 : zLv mL mX10_skyline 82 2 := ⟨⟨bX10_skyline.1, bX10_skyline.2.1, bX10_skyline.2.2, by decide, by decide⟩, zc7 74 (by decide +kernel) rfl, zc7 75 (by decide +kernel) rfl, zc7 76 (by decide +kernel) rfl⟩
theorem kL_83 : zLv mL mX9_lands 83 4 := ⟨⟨bX9_lands.1, bX9_lands.2.1, bX9_lands.2.2, by decide, by decide⟩, zc4 97 (by decide +kernel) rfl, zc4 98 (by decide +kernel) rfl, zc4 99 (by decide +kernel) rfl⟩
theorem kL_87 : zLv mL mX10_lands 87 4 := ⟨⟨bX10_lands.1, bX10_lands.2.1, bX10_lands.2.2, by decide, by decide⟩, zc7 78 (by decide +kernel) rfl, zc7 79 (by decide +kernel) rfl, zc7 80 (by decide +kernel) rfl⟩
theorem kL_88 : zLv mL mX9_dunes 88 1 := ⟨⟨bX9_dunes.1, bX9_dunes.2.1, bX9_dunes.2.2, by decide, by decide⟩, zc4 109 (by decide +kernel) rfl, zc4 110 (by decide +kernel) rfl, zc4 111 (by decide +kernel) rfl⟩
theorem kL_91 : zLv mL mX10_dunes 91 1 := ⟨⟨bX10_dunes.1, bX10_dunes.2.1, bX10_dunes.2.2, by decide, by decide⟩, zc7 87 (by decide +kernel) rfl, zc7 88 (by decide +kernel) rfl, zc7 89 (by decide +kernel) rfl⟩
theorem kL_92 : zLv mL mX9_dune 92 3 := ⟨⟨bX9_dune.1, bX9_dune.2.1, bX9_dune.2.2, by decide, by decide⟩, zc4 131 (by decide +kernel) rfl, zc4 132 (by decide +kernel) rfl, zc4 133 (by decide +kernel) rfl⟩
theorem kL_96 : zLv mL mX10_dune 96 3 := ⟨⟨bX10_dune.1, bX10_dune.2.1, bX10_dune.2.2, by decide, by decide⟩, zc7 103 (by decide +kernel) rfl, zc7 104 (by decide +kernel) rfl, zc7 105 (by decide +kernel) rfl⟩
theorem kL_97 : zLv mL mX9_duneOf 97 2 := ⟨⟨bX9_duneOf.1, bX9_duneOf.2.1, bX9_duneOf.2.2, by decide, by decide⟩, zc4 156 (by decide +kernel) rfl, zc4 157 (by decide +kernel) rfl, zc4 158 (by decide +kernel) rfl⟩
theorem kL_100 : zLv mL mX10_duneOf 100 2 := ⟨⟨bX10_duneOf.1, bX10_duneOf.2.1, bX10_duneOf.2.2, by decide, by decide⟩, zc7 115 (by decide +kernel) rfl, zc7 116 (by decide +kernel) rfl, zc7 117 (by decide +kernel) rfl⟩
theorem kL_101 : zLv mL mX9_parts 101 1 := ⟨⟨bX9_parts.1, bX9_parts.2.1, bX9_parts.2.2, by decide, by decide⟩, zc4 160 (by decide +kernel) rfl, zc4 161 (by decide +kernel) rfl, zc4 162 (by decide +kernel) rfl⟩
theorem kL_104 : zLv mL mX10_parts 104 1 := ⟨⟨bX10_parts.1, bX10_parts.2.1, bX10_parts.2.2, by decide, by decide⟩, zc7 119 (by decide +kernel) rfl, zc7 120 (by decide +kernel) rfl, zc7 121 (by decide +kernel) rfl⟩
theorem kL_105 : zLv mL mX9_saddle 105 2 := ⟨⟨bX9_saddle.1, bX9_saddle.2.1, bX9_saddle.2.2, by decide, by decide⟩, zc4 168 (by decide +kernel) rfl, zc4 169 (by decide +kernel) rfl, zc4 170 (by decide +kernel) rfl⟩
theorem kL_108 : zLv mL mX10_saddle 108 2 := ⟨⟨bX10_saddle.1, bX10_saddle.2.1, bX10_saddle.2.2, by decide, by decide⟩, zc7 123 (by decide +kernel) rfl, zc7 124 (by decide +kernel) rfl, zc7 125 (by decide +kernel) rfl⟩
theorem kL_109 : zLv mL mX9_crests 109 1 := ⟨⟨bX9_crests.1, bX9_crests.2.1, bX9_crests.2.2, by decide, by decide⟩, zc4 179 (by decide +kernel) rfl, zc4 180 (by decide +kernel) rfl, zc4 181 (by decide +kernel) rfl⟩
theorem kL_112 : zLv mL mX10_crests 112 1 := ⟨⟨bX10_crests.1, bX10_crests.2.1, bX10_crests.2.2, by decide, by decide⟩, zc7 134 (by decide +kernel) rfl, zc7 135 (by decide +kernel) rfl, zc7 136 (by decide +kernel) rfl⟩
theorem kL_113 : zLv mL mX9_follows 113 3 := ⟨⟨bX9_follows.1, bX9_follows.2.1, bX9_follows.2.2, by decide, by decide⟩, zc4 188 (by decide +kernel) rfl, zc4 189 (by decide +kernel) rfl, zc4 190 (by decide +kernel) rfl⟩
theorem kL_116 : zLv mL mX10_follows 116 3 := ⟨⟨bX10_follows.1, bX10_follows.2.1, bX10_follows.2.2, by decide, by decide⟩, zc7 146 (by decide +kernel) rfl, zc7 147 (by decide +kernel) rfl, zc7 148 (by decide +kernel) rfl⟩
theorem kL_117 : zLv mL mX9_fates 117 3 := ⟨⟨bX9_fates.1, bX9_fates.2.1, bX9_fates.2.2, by decide, by decide⟩, zc4 200 (by decide +kernel) rfl, zc4 201 (by decide +kernel) rfl, zc4 202 (by decide +kernel) rfl⟩
theorem kL_120 : zLv mL mX10_fates 120 3 := ⟨⟨bX10_fates.1, bX10_fates.2.1, bX10_fates.2.2, by decide, by decide⟩, zc7 162 (by decide +kernel) rfl, zc7 163 (by decide +kernel) rfl, zc7 164 (by decide +kernel) rfl⟩
theorem kL_121 : zLv mL mX9_shift 121 2 := ⟨⟨bX9_shift.1, bX9_shift.2.1, bX9_shift.2.2, by decide, by decide⟩, zc4 212 (by decide +kernel) rfl, zc4 213 (by decide +kernel) rfl, zc4 214 (by decide +kernel) rfl⟩
theorem kL_124 : zLv mL mX10_shift 124 2 := ⟨⟨bX10_shift.1, bX10_shift.2.1, bX10_shift.2.2, by decide, by decide⟩, zc7 170 (by decide +kernel) rfl, zc7 171 (by decide +kernel) rfl, zc7 172 (by decide +kernel) rfl⟩
theorem kL_125 : zLv mL mX9_would 125 2 := ⟨⟨bX9_would.1, bX9_would.2.1, bX9_would.2.2, by decide, by decide⟩, zc4 221 (by decide +kernel) rfl, zc4 222 (by decide +kernel) rfl, zc4 223 (by decide +kernel) rfl⟩
theorem kL_128 : zLv mL mX10_would 128 2 := ⟨⟨bX10_would.1, bX10_would.2.1, bX10_would.2.2, by decide, by decide⟩, zc7 178 (by decide +kernel) rfl, zc7 179 (by decide +kernel) rfl, zc7 180 (by decide +kernel) rfl⟩
theorem kL_129 : zLv mL mX9_next 129 2 := ⟨⟨bX9_next.1, bX9_next.2.1, bX9_next.2.2, by decide, by decide⟩, zc4 235 (by decide +kernel) rfl, zc4 236 (by decide +kernel) rfl, zc4 237 (by decide +kernel) rfl⟩
theorem kL_132 : zLv mL mX10_next 132 2 := ⟨⟨bX10_next.1, bX10_next.2.1, bX10_next.2.2, by decide, by decide⟩, zc7 182 (by decide +kernel) rfl, zc7 183 (by decide +kernel) rfl, zc7 184 (by decide +kernel) rfl⟩
theorem kL_133 : zLv mL mX9_flux 133 2 := ⟨⟨bX9_flux.1, bX9_flux.2.1, bX9_flux.2.2, by decide, by decide⟩, zc4 239 (by decide +kernel) rfl, zc5 0 (by decide +kernel) rfl, zc5 1 (by decide +kernel) rfl⟩
theorem kL_136 : zLv mL mX10_flux 136 2 := ⟨⟨bX10_flux.1, bX10_flux.2.1, bX10_flux.2.2, by decide, by decide⟩, zc7 186 (by decide +kernel) rfl, zc7 187 (by decide +kernel) rfl, zc7 188 (by decide +kernel) rfl⟩
theorem kL_137 : zLv mL mX9_game 137 3 := ⟨⟨bX9_game.1, bX9_game.2.1, bX9_game.2.2, by decide, by decide⟩, zc5 3 (by decide +kernel) rfl, zc5 4 (by decide +kernel) rfl, zc5 5 (by decide +kernel) rfl⟩
theorem kL_140 : zLv mL mX10_game 140 3 := ⟨⟨bX10_game.1, bX10_game.2.1, bX10_game.2.2, by decide, by decide⟩, zc7 190 (by decide +kernel) rfl, zc7 191 (by decide +kernel) rfl, zc7 192 (by decide +kernel) rfl⟩
theorem kL_141 : zLv mL mX9_tallest 141 2 := ⟨⟨bX9_tallest.1, bX9_tallest.2.1, bX9_tallest.2.2, by decide, by decide⟩, zc5 7 (by decide +kernel) rfl, zc5 8 (by decide +kernel) rfl, zc5 9 (by decide +kernel) rfl⟩
theorem kL_144 : zLv mL mX10_tallest 144 2 := ⟨⟨bX10_tallest.1, bX10_tallest.2.1, bX10_tallest.2.2, by decide, by decide⟩, zc7 194 (by decide +kernel) rfl, zc7 195 (by decide +kernel) rfl, zc7 196 (by decide +kernel) rfl⟩
theorem kL_145 : zLv mL mX9_seen 145 4 := ⟨⟨bX9_seen.1, bX9_seen.2.1, bX9_seen.2.2, by decide, by decide⟩, zc5 11 (by decide +kernel) rfl, zc5 12 (by decide +kernel) rfl, zc5 13 (by decide +kernel) rfl⟩
theorem kL_149 : zLv mL mX10_seen 149 4 := ⟨⟨bX10_seen.1, bX10_seen.2.1, bX10_seen.2.2, by decide, by decide⟩, zc7 199 (by decide +kernel) rfl, zc7 200 (by decide +kernel) rfl, zc7 201 (by decide +kernel) rfl⟩
theorem kL_150 : zLv mL mX9_untell 150 1 := ⟨⟨bX9_untell.1, bX9_untell.2.1, bX9_untell.2.2, by decide, by decide⟩, zc5 25 (by decide +kernel) rfl, zc5 26 (by decide +kernel) rfl, zc5 27 (by decide +kernel) rfl⟩
theorem kL_154 : zLv mL mX10_untell 154 1 := ⟨⟨bX10_untell.1, bX10_untell.2.1, bX10_untell.2.2, by decide, by decide⟩, zc7 203 (by decide +kernel) rfl, zc7 204 (by decide +kernel) rfl, zc7 205 (by decide +kernel) rfl⟩
theorem kL_155 : zLv mL mX9_later 155 1 := ⟨⟨bX9_later.1, bX9_later.2.1, bX9_later.2.2, by decide, by decide⟩, zc5 33 (by decide +kernel) rfl, zc5 34 (by decide +kernel) rfl, zc5 35 (by decide +kernel) rfl⟩
theorem kL_158 : zLv mL mX10_later 158 1 := ⟨⟨bX10_later.1, bX10_later.2.1, bX10_later.2.2, by decide, by decide⟩, zc7 207 (by decide +kernel) rfl, zc7 208 (by decide +kernel) rfl, zc7 209 (by decide +kernel) rfl⟩
theorem kL_159 : zLv mL mX9_fits 159 1 := ⟨⟨bX9_fits.1, bX9_fits.2.1, bX9_fits.2.2, by decide, by decide⟩, zc5 38 (by decide +kernel) rfl, zc5 39 (by decide +kernel) rfl, zc5 40 (by decide +kernel) rfl⟩
theorem kL_162 : zLv mL mX10_fits 162 1 := ⟨⟨bX10_fits.1, bX10_fits.2.1, bX10_fits.2.2, by decide, by decide⟩, zc7 212 (by decide +kernel) rfl, zc7 213 (by decide +kernel) rfl, zc7 214 (by decide +kernel) rfl⟩
theorem kL_163 : zLv mL mX9_fit 163 2 := ⟨⟨bX9_fit.1, bX9_fit.2.1, bX9_fit.2.2, by decide, by decide⟩, zc5 53 (by decide +kernel) rfl, zc5 54 (by decide +kernel) rfl, zc5 55 (by decide +kernel) rfl⟩
theorem kL_166 : zLv mL mX10_fit 166 2 := ⟨⟨bX10_fit.1, bX10_fit.2.1, bX10_fit.2.2, by decide, by decide⟩, zc7 236 (by decide +kernel) rfl, zc7 237 (by decide +kernel) rfl, zc7 238 (by decide +kernel) rfl⟩
theorem kL_167 : zLv mL mX9_ask 167 3 := ⟨⟨bX9_ask.1, bX9_ask.2.1, bX9_ask.2.2, by decide, by decide⟩, zc5 60 (by decide +kernel) rfl, zc5 61 (by decide +kernel) rfl, zc5 62 (by decide +kernel) rfl⟩
theorem kL_170 : zLv mL mX10_ask 170 3 := ⟨⟨bX10_ask.1, bX10_ask.2.1, bX10_ask.2.2, by decide, by decide⟩, zc8 0 (by decide +kernel) rfl, zc8 1 (by decide +kernel) rfl, zc8 2 (by decide +kernel) rfl⟩
theorem kL_171 : zLv mL mX9_image 171 1 := ⟨⟨bX9_image.1, bX9_image.2.1, bX9_image.2.2, by decide, by decide⟩, zc5 79 (by decide +kernel) rfl, zc5 80 (by decide +kernel) rfl, zc5 81 (by decide +kernel) rfl⟩
theorem kL_174 : zLv mL mX10_image 174 1 := ⟨⟨bX10_image.1, bX10_image.2.1, bX10_image.2.2, by decide, by decide⟩, zc8 8 (by decide +kernel) rfl, zc8 9 (by decide +kernel) rfl, zc8 10 (by decide +kernel) rfl⟩
theorem kL_175 : zLv mL mX9_back 175 1 := ⟨⟨bX9_back.1, bX9_back.2.1, bX9_back.2.2, by decide, by decide⟩, zc5 83 (by decide +kernel) rfl, zc5 84 (by decide +kernel) rfl, zc5 85 (by decide +kernel) rfl⟩
theorem kL_178 : zLv mL mX10_back 178 1 := ⟨⟨bX10_back.1, bX10_back.2.1, bX10_back.2.2, by decide, by decide⟩, zc8 13 (by decide +kernel) rfl, zc8 14 (by decide +kernel) rfl, zc8 15 (by decide +kernel) rfl⟩
theorem kL_179 : zLv mL mX9_about 179 1 := ⟨⟨bX9_about.1, bX9_about.2.1, bX9_about.2.2, by decide, by decide⟩, zc5 87 (by decide +kernel) rfl, zc5 88 (by decide +kernel) rfl, zc5 89 (by decide +kernel) rfl⟩
theorem kL_182 : zLv mL mX10_about 182 1 := ⟨⟨bX10_about.1, bX10_about.2.1, bX10_about.2.2, by decide, by decide⟩, zc8 17 (by decide +kernel) rfl, zc8 18 (by decide +kernel) rfl, zc8 19 (by decide +kernel) rfl⟩
