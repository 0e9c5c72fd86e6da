/-! PURE 15: text, undo, keep, restore. -/
theorem prj1 {α β : Type} (a : α) (b : β) : (a, b).1 = a := rfl
theorem prj2 {α β : Type} (a : α) (b : β) : (a, b).2 = b := rfl
theorem rem_k {xx : Nat → Nat → Nat → Int32} {x : Nat → Nat → Int32} (h : RR xx x) : mX6_remembers x 0 = x 0 ∧ mX6_remembers x 2 = x 2 := by
  have g0 : RG (und xx (xx 0)) x := RG_c (fun j hj => und_j _ _ (by omega) (by omega)) rfl rfl h.rg
  obtain ⟨g, ke, r0, r2, r3, r41, r42⟩ := recA g0 (by rw [und_1]; exact h.now) h.ok
  exact ⟨r0, r2⟩
theorem eta2 {α β : Type} (p : α × β) : (p.1, p.2) = p := rfl
