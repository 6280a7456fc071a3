/-! the law: two worlds in one heap -/
def mL : zD := (yL_law, code, 4, some .boolean, 13, 482)
section LW
variable {g g' : zG} {σ : zS} {M M1 M2 : zM} {H H1 : Heap} {U : State}
/-- a closed world whose cells stay -/
theorem zH.stay (h : zH g σ M H) (hc : σ.1 = false) (hq : ∀ a : Nat, 1 ≤ a → a ≤ σ.2.1.length → H1[g.1 + a]? = H[g.1 + a]?) : zH g σ M H1 := by
  refine ⟨fun a => ?_, fun h => by rw [hc] at h; cases h⟩
  by_cases ha : 1 ≤ a ∧ a ≤ σ.2.1.length
  · exact zc_kept (h.1 a) (hq a ha.1 ha.2) (fun _ => rfl)
  · have hz : zh σ a = (9, 0) := by
      cases a with
      | zero => rfl
      | succ k =>
        show σ.2.1.getD k (9, 0) = (9, 0)
        rw [List.getD_eq_getElem?_getD, List.getElem?_eq_none (by omega)]; rfl
    unfold zcell
    rw [hz]
    simp
/-- a world is closed -/
theorem zH.shut {L : List (Nat × Nat)} {F : Nat → Nat → Nat} (h : zH g (true, L, F) M H) : zH g (false, L, F) M H := ⟨fun a => h.1 a, fun h => by cases h⟩
theorem zX.up (h : zX g U) (he : g'.2 = g.2) (hl : g.1 ≤ g'.1) : zX g' U := by
  have hn : ∀ q : Nat, (fun q : Nat => g'.1 < q) q → (fun q : Nat => g.1 < q) q := fun q hq => Nat.lt_of_le_of_lt hl hq
  obtain ⟨h1, h2, h3, h4, h5, h6, h7, h8, h9, h10, h11⟩ := h
  unfold zX
  rw [he]
  exact ⟨h1.narrow hn, h2.narrow hn, h3.narrow hn, h4.narrow hn, h5.narrow hn, h6.narrow hn, h7, h8.narrow hn, h9, h10, h11⟩
end LW
