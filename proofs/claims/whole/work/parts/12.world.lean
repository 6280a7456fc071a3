def zSL1 : List (Nat × Nat) := [(0, 9), (0, 8), (1, 900), (1, 901), (1, 901), (1, 901), (0, 4), (0, 0), (1, 4), (1, 96), (1, 96), (1, 8), (1, 8), (0, 2), (1, 96), (1, 96), (1, 384), (1, 8), (1, 8), (0, 5), (1, 96), (1, 96), (1, 4), (0, 5), (1, 96), (1, 96), (1, 4), (0, 5), (1, 96), (1, 96), (1, 4), (0, 7), (1, 12), (0, 7), (1, 12), (0, 1), (4, 21), (0, 5), (1, 96), (1, 96), (1, 4), (0, 5), (1, 96), (1, 96), (1, 4), (0, 5), (1, 96), (1, 96), (1, 4), (0, 5), (1, 96), (1, 96), (1, 4), (0, 5), (1, 96), (1, 96), (1, 4), (0, 5), (1, 96), (1, 96), (1, 4), (0, 5), (1, 96), (1, 96), (1, 4), (0, 5), (1, 96), (1, 96), (1, 4), (0, 5), (1, 96), (1, 96), (1, 4), (0, 5), (1, 96), (1, 96), (1, 4), (0, 5), (1, 96), (1, 96), (1, 4), (0, 5), (1, 96), (1, 96), (1, 4), (0, 5), (1, 96), (1, 96), (1, 4), (0, 5), (1, 96), (1, 96), (1, 4), (0, 5), (1, 96), (1, 96), (1, 4), (0, 5), (1, 96), (1, 96), (1, 4), (0, 5), (1, 96), (1, 96), (1, 4), (0, 5), (1, 96), (1, 96), (1, 4), (0, 5), (1, 96), (1, 96), (1, 4), (0, 5), (1, 96), (1, 96), (1, 4), (0, 5), (1, 96), (1, 96), (1, 4), (0, 6), (1, 20), (1, 20), (3, 20), (1, 4800), (0, 3), (2, 96), (1, 96), (1, 96), (0, 3), (2, 96), (1, 96), (1, 96), (4, 3), (0, 5), (1, 96), (1, 96), (1, 4), (0, 5), (1, 96), (1, 96), (1, 4), (0, 5), (1, 96), (1, 96), (1, 4), (2, 3), (1, 96)]
def zFL1 : List (List Nat) := [[], [2, 7, 14, 20, 24, 28, 32, 34, 36, 122, 127, 131, 135, 148, 149, 0], [3, 0, 4, 5, 6, 0], [], [], [], [], [2, 8, 0, 0, 0], [0, 0, 0, 0, 0, 0, 0, 0, 9, 10, 11, 12, 13], [], [], [], [], [], [0, 0, 0, 0, 0, 0, 15, 16, 17, 18, 19], [], [], [], [], [], [21, 22, 23, 0, 0], [], [], [], [25, 26, 27, 0, 0], [], [], [], [29, 30, 31, 0, 0], [], [], [], [14, 24, 33, 0, 0], [], [14, 28, 35, 0, 0], [], [37, 0, 0], [], [39, 40, 41, 0, 0], [], [], [], [43, 44, 45, 0, 0], [], [], [], [47, 48, 49, 0, 0], [], [], [], [51, 52, 53, 0, 0], [], [], [], [55, 56, 57, 0, 0], [], [], [], [59, 60, 61, 0, 0], [], [], [], [63, 64, 65, 0, 0], [], [], [], [67, 68, 69, 0, 0], [], [], [], [71, 72, 73, 0, 0], [], [], [], [75, 76, 77, 0, 0], [], [], [], [79, 80, 81, 0, 0], [], [], [], [83, 84, 85, 0, 0], [], [], [], [87, 88, 89, 0, 0], [], [], [], [91, 92, 93, 0, 0], [], [], [], [95, 96, 97, 0, 0], [], [], [], [99, 100, 101, 0, 0], [], [], [], [103, 104, 105, 0, 0], [], [], [], [107, 108, 109, 0, 0], [], [], [], [111, 112, 113, 0, 0], [], [], [], [115, 116, 117, 0, 0], [], [], [], [119, 120, 121, 0, 0], [], [], [], [14, 20, 28, 34, 123, 124, 125, 126, 0], [], [], [], [], [14, 128, 129, 0, 130, 0], [], [], [], [14, 132, 133, 0, 134, 0], [], [], [], [], [137, 138, 139, 0, 0], [], [], [], [141, 142, 143, 0, 0], [], [], [], [145, 146, 147, 0, 0], [], [], [], [], []]
def z1 (o : Bool) : zS := (o, zSL1, fun a k => (zFL1.getD a []).getD k 0)
def zSL2 : List (Nat × Nat) := [(0, 10), (1, 900), (1, 20), (1, 16), (1, 16), (1, 192), (1, 192), (1, 96), (2, 8), (1, 198), (1, 198), (1, 3960), (1, 96), (1, 96), (1, 96), (1, 594), (2, 3), (1, 20), (1, 20), (1, 20), (1, 20), (1, 20), (1, 20), (2, 50), (1, 4800)]
def zFL2 : List (List Nat) := [[], [2, 0, 0, 0, 0, 0, 0, 0, 0, 0, 0, 0, 3, 4, 5, 6, 7, 8, 9, 0, 0, 10, 11, 0, 0, 0, 0, 12, 0, 0, 13, 14, 15, 0, 16, 17, 18, 19, 20, 21, 22, 23, 0, 0, 24, 25], [], [], [], [], [], [], [], [], [], [], [], [], [], [], [], [], [], [], [], [], [], [], [], []]
def z2 (o : Bool) : zS := (o, zSL2, fun a k => (zFL2.getD a []).getD k 0)
def zsds : List Nat := [20, 24, 28, 38, 42, 46, 50, 54, 58, 62, 66, 70, 74, 78, 82, 86, 90, 94, 98, 102, 106, 110, 114, 118, 136, 140, 144]
/-! the objects of which there are several: a Sand s, a Storm a over a Sand s, a Lumps b -/
def zSd (s : Nat) : Prop := s ∈ zsds
def zSt (a s : Nat) : Prop := (a = 32 ∧ s = 24) ∨ (a = 34 ∧ s = 28)
def zLu (b : Nat) : Prop := b = 127 ∨ b = 131
theorem zsd_all : ∀ s ∈ zsds, (zh (z1 true) s = (0, 5) ∧ zh (z1 true) (s + 1) = (1, 96) ∧ zh (z1 true) (s + 2) = (1, 96) ∧ zh (z1 true) (s + 3) = (1, 4)) ∧ (z1 true).2.2 s 0 = s + 1 ∧ (z1 true).2.2 s 1 = s + 2 ∧ (z1 true).2.2 s 2 = s + 3 ∧ s ≠ 0 ∧ 20 ≤ s ∧ s ≤ 144 := by decide +kernel
section ZW
variable {o : Bool} {s a b : Nat}
theorem zsd_0 (h : zSd s) : zh (z1 o) s = (0, 5) := (zsd_all s h).1.1
theorem zsd_1 (h : zSd s) : zh (z1 o) (s + 1) = (1, 96) := (zsd_all s h).1.2.1
theorem zsd_2 (h : zSd s) : zh (z1 o) (s + 2) = (1, 96) := (zsd_all s h).1.2.2.1
theorem zsd_3 (h : zSd s) : zh (z1 o) (s + 3) = (1, 4) := (zsd_all s h).1.2.2.2
theorem zsd_f0 (h : zSd s) : (z1 o).2.2 s 0 = s + 1 := (zsd_all s h).2.1
theorem zsd_f1 (h : zSd s) : (z1 o).2.2 s 1 = s + 2 := (zsd_all s h).2.2.1
theorem zsd_f2 (h : zSd s) : (z1 o).2.2 s 2 = s + 3 := (zsd_all s h).2.2.2.1
theorem zsd_nz (h : zSd s) : s ≠ 0 := (zsd_all s h).2.2.2.2.1
theorem zsd_lo (h : zSd s) : 20 ≤ s ∧ s ≤ 144 := (zsd_all s h).2.2.2.2.2
theorem zst_s (h : zSt a s) : zSd s := by rcases h with ⟨-, rfl⟩ | ⟨-, rfl⟩ <;> (unfold zSd; decide)
theorem zst_0 (h : zSt a s) : zh (z1 o) a = (0, 7) := by rcases h with ⟨rfl, rfl⟩ | ⟨rfl, rfl⟩ <;> rfl
theorem zst_c (h : zSt a s) : zh (z1 o) (a + 1) = (1, 12) := by rcases h with ⟨rfl, rfl⟩ | ⟨rfl, rfl⟩ <;> rfl
theorem zst_f0 (h : zSt a s) : (z1 o).2.2 a 0 = 14 := by rcases h with ⟨rfl, rfl⟩ | ⟨rfl, rfl⟩ <;> rfl
theorem zst_f1 (h : zSt a s) : (z1 o).2.2 a 1 = s := by rcases h with ⟨rfl, rfl⟩ | ⟨rfl, rfl⟩ <;> rfl
theorem zst_f2 (h : zSt a s) : (z1 o).2.2 a 2 = a + 1 := by rcases h with ⟨rfl, rfl⟩ | ⟨rfl, rfl⟩ <;> rfl
theorem zst_nz (h : zSt a s) : a ≠ 0 := by rcases h with ⟨rfl, rfl⟩ | ⟨rfl, rfl⟩ <;> decide
theorem zlu_0 (h : zLu b) : zh (z1 o) b = (0, 3) := by rcases h with rfl | rfl <;> rfl
theorem zlu_1 (h : zLu b) : zh (z1 o) (b + 1) = (2, 96) := by rcases h with rfl | rfl <;> rfl
theorem zlu_2 (h : zLu b) : zh (z1 o) (b + 2) = (1, 96) := by rcases h with rfl | rfl <;> rfl
theorem zlu_3 (h : zLu b) : zh (z1 o) (b + 3) = (1, 96) := by rcases h with rfl | rfl <;> rfl
theorem zlu_f0 (h : zLu b) : (z1 o).2.2 b 0 = 14 := by rcases h with rfl | rfl <;> rfl
theorem zlu_f1 (h : zLu b) : (z1 o).2.2 b 1 = b + 1 := by rcases h with rfl | rfl <;> rfl
theorem zlu_f2 (h : zLu b) : (z1 o).2.2 b 2 = b + 2 := by rcases h with rfl | rfl <;> rfl
theorem zlu_f4 (h : zLu b) : (z1 o).2.2 b 4 = b + 3 := by rcases h with rfl | rfl <;> rfl
theorem zlu_nz (h : zLu b) : b ≠ 0 := by rcases h with rfl | rfl <;> decide
end ZW
/-! rows by a field's number as an Int -/
section ZG
variable {g : zG} {d : zD} {mm kw : Nat × Nat} {σ0 σ : zS} {Q : zP} {pc : Nat} {l : List (Nat × Value)} {st : List Value} {M : zM} {idx ci j a b : Nat} {ji x : Int} {own : String}
theorem zt_geti (ji : Int) (hj : (j : Int) = ji) (hd : decode d.2.1 pc = .ok (.getfield idx, 3)) (hL : zLf d.1.cls idx ci j) (hs : zh σ a = (0, ci)) (hk : zfk ci j = 0 ∨ zfk ci j = 3) (k : zR g d mm σ0 Q (pc + 3) l (zI (M a ji) :: st) kw σ M) : zR g d mm σ0 Q pc l (zA g a :: st) kw σ M := by subst hj; exact zr_geti hd hL hs hk k
theorem zt_getl (ji : Int) (hj : (j : Int) = ji) (hd : decode d.2.1 pc = .ok (.getfield idx, 3)) (hL : zLf d.1.cls idx ci j) (hs : zh σ a = (0, ci)) (hk : zfk ci j = 1) (k : zR g d mm σ0 Q (pc + 3) l (zL (M a ji) :: st) kw σ M) : zR g d mm σ0 Q pc l (zA g a :: st) kw σ M := by subst hj; exact zr_getl hd hL hs hk k
theorem zt_puti (ji : Int) (hj : (j : Int) = ji) (hd : decode d.2.1 pc = .ok (.putfield idx, 3)) (hL : zLf d.1.cls idx ci j) (hC : zLc ci) (hT : zLt ci j false own .int) (hk : zfk ci j = 0) (hs : zh σ a = (0, ci)) (k : zR g d mm σ0 Q (pc + 3) l st kw σ (zu M a ji x)) : zR g d mm σ0 Q pc l (zI x :: zA g a :: st) kw σ M := by subst hj; exact zr_puti hd hL hC hT hk hs k
theorem zt_putl (ji : Int) (hj : (j : Int) = ji) (hd : decode d.2.1 pc = .ok (.putfield idx, 3)) (hL : zLf d.1.cls idx ci j) (hC : zLc ci) (hT : zLt ci j false own .long) (hk : zfk ci j = 1) (hs : zh σ a = (0, ci)) (k : zR g d mm σ0 Q (pc + 3) l st kw σ (zu M a ji x)) : zR g d mm σ0 Q pc l (zL x :: zA g a :: st) kw σ M := by subst hj; exact zr_putl hd hL hC hT hk hs k
theorem zt_putz (ji : Int) (hj : (j : Int) = ji) (hd : decode d.2.1 pc = .ok (.putfield idx, 3)) (hL : zLf d.1.cls idx ci j) (hC : zLc ci) (hT : zLt ci j false own .boolean) (hk : zfk ci j = 3) (hx : x = 0 ∨ x = 1) (hs : zh σ a = (0, ci)) (k : zR g d mm σ0 Q (pc + 3) l st kw σ (zu M a ji x)) : zR g d mm σ0 Q pc l (zI x :: zA g a :: st) kw σ M := by subst hj; exact zr_putz hd hL hC hT hk hx hs k
end ZG
theorem zc_in (x y : Int) : zin (zcmp x y) := by unfold zcmp zin; split <;> (try split) <;> omega
theorem zc_eq {x y : Int} : zcmp x y = 0 ↔ x = y := by unfold zcmp; split <;> (try split) <;> omega
theorem zc_ne {x y : Int} : zcmp x y ≠ 0 ↔ x ≠ y := not_congr zc_eq
theorem zc_lt {x y : Int} : zcmp x y < 0 ↔ x < y := by unfold zcmp; split <;> (try split) <;> omega
theorem zc_le {x y : Int} : zcmp x y ≤ 0 ↔ x ≤ y := by unfold zcmp; split <;> (try split) <;> omega
theorem zc_gt {x y : Int} : 0 < zcmp x y ↔ y < x := by unfold zcmp; split <;> (try split) <;> omega
theorem zc_ge {x y : Int} : 0 ≤ zcmp x y ↔ y ≤ x := by unfold zcmp; split <;> (try split) <;> omega
