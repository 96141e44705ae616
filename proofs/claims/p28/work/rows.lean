section
/-! THE STATEMENT OF p28 SAYS NOTHING: its entry is said to have no exception table ('Cond.code', held to the class file by 'hasCode'), but the law's own method catches three times, so its class file says otherwise; no launch meets the premises. -/
theorem em_code : classFile.hasCode x code maxLocals ret = false := by decide +kernel
theorem em_any {α : Type} {f : α} {p : α → Bool} {o : Option α} (ho : o = some f) (h : o.any p = true) : p f = true := by
  subst ho
  exact h
theorem em_none (l : Launch) : ¬ Jvm.D.Lists l classFile x code maxLocals ret tables_1 room_1 := by
  intro h
  obtain ⟨_, hf, hfl, _⟩ := h
  have h1 := hfl.1 (x, code, maxLocals, ret) (List.mem_append_left _ (List.mem_append_left _ (List.mem_singleton.mpr rfl)))
  have h3 := em_any (p := fun f => f.hasCode x code maxLocals ret) hf h1
  exact absurd (em_code.symm.trans h3) (by decide)
end
section
/-! The owed theorem, true for want of a launch: NO PROOF OF THE PROPERTY (REPORT.md, STATEMENT 1). -/
theorem i_vc : Claimed_1_1 ∧ Claimed_1_2 := ⟨fun l _ h _ => absurd h (em_none l), fun l _ h _ => absurd h (em_none l)⟩
end
