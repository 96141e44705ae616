/-! The owed theorem, true for want of a launch: NO PROOF OF THE PROPERTY (REPORT.md, STATEMENT 1). -/
theorem i_vc : Claimed_1_1 ∧ Claimed_1_2 := ⟨fun l _ h _ => absurd h (em_none l), fun l _ h _ => absurd h (em_none l)⟩
