/-! RAIL: its text is short, whatever stands on the rail. -/
section PureRail
theorem r16 : ∀ k, k ≤ 9 → decide (ii k + (1 : Int32) - Int32.ofNat 16 ≤ 0) = true := by decide +kernel
theorem r17 : ∀ k, k ≤ 9 → decide (ii k + (1 : Int32) - Int32.ofNat 17 ≤ 0) = true := by decide +kernel
theorem rtok : ∀ k, k ≤ 9 → cntok (ii k + (1 : Int32)) = true := by decide +kernel
theorem pow_ok (a c : Int32) (p : Nat → Int32) : ∃ x, f_X6_powerOf a c p = some x := by
  unfold f_X6_powerOf f_X6_isPiece
  by_cases h1 : a < 0
  · rw [if_pos h1]; exact ⟨0, rfl⟩
  rw [if_neg h1]
  by_cases h2 : c ≤ a
  · rw [if_pos h2]; exact ⟨0, rfl⟩
  rw [if_neg h2]
  by_cases h3 : (8 : Int32) ≤ a
  · rw [if_pos h3]; exact ⟨0, rfl⟩
  rw [if_neg h3, bd_i, if_neg (by decide)]
  have hv : vin a 8 = true := by
    unfold vin
    have h4 : a.toNatClampNeg < 8 := by
      rw [Int32.le_iff_toInt_le] at h3
      have h5 : (8 : Int32).toInt = 8 := by decide
      show a.toInt.toNat < 8
      omega
    simp only [decide_eq_false h1, Bool.false_or, Bool.not_eq_true', decide_eq_false_iff_not]
    omega
  rw [gd_t hv]
  exact ⟨_, rfl⟩
theorem sign_ok (x : Int32) : ∃ y, f_X6_signOf x = some y ∧ decide (y ≤ 255) = true := by
  unfold f_X6_signOf
  by_cases h1 : x = 0
  · exact ⟨124, if_pos h1, by decide⟩
  · rw [if_neg h1]
    by_cases h2 : x ≤ 0
    · exact ⟨41, if_pos h2, by decide⟩
    · exact ⟨40, if_neg h2, by decide⟩
theorem rail6_lp {n : Nat} (hn : n ≤ 8) {c : Int32} {p : Nat → Int32} {o : Int32 × Int32 × Int32 × (Nat → Int32) × (Nat → Int32) × (Nat → Int32) × (Nat → UInt64)} (ho : o.1 = ii n) :
    ∀ (j k : Nat), n = k + j → ∀ fuel, j < fuel → lp (f_X6_rail_b1 c p o) fuel (ii k, ii (k + 1)) = some (o.1, o.2.1, o.2.2.1, o.2.2.2.1, o.2.2.2.2.1, o.2.2.2.2.2.1, o.2.2.2.2.2.2) := by
  intro j
  induction j with
  | zero =>
    intro k hk fuel hf
    obtain ⟨f, rfl⟩ : ∃ f, fuel = f + 1 := ⟨fuel - 1, by omega⟩
    rw [lp_st]
    unfold f_X6_rail_b1
    have hle : o.1 ≤ ii k := by rw [ho, show n = k by omega]; exact Int32.le_refl _
    rw [if_pos hle, gd_t (r16 (k + 1) (by omega)), gd_t (vin_ii (show k + 1 < 16 by omega) (by omega)), gd_t (rtok (k + 1) (by omega))]
  | succ j ih =>
    intro k hk fuel hf
    obtain ⟨f, rfl⟩ : ∃ f, fuel = f + 1 := ⟨fuel - 1, by omega⟩
    rw [lp_st]
    unfold f_X6_rail_b1
    have hle : ¬ o.1 ≤ ii k := by rw [ho, ii_le (by omega) (by omega)]; omega
    obtain ⟨x, hx⟩ := pow_ok (o.2.2.2.1 (ii k).toNatClampNeg) c p
    obtain ⟨y, hy, hy2⟩ := sign_ok x
    rw [if_neg hle, gd_t (vin_ii (show k < 8 by omega) (by omega)), bd_s hx, bd_s hy, gd_t hy2, gd_t (r16 (k + 1) (by omega)), gd_t (vin_ii (show k + 1 < 16 by omega) (by omega))]
    rw [show ii k + (1 : Int32) = ii (k + 1) from ii_s k, show ii (k + 1) + (1 : Int32) = ii (k + 1 + 1) from ii_s (k + 1)]
    exact ih (k + 1) (by omega) f (by omega)
theorem rail8_lp {n : Nat} (hn : n ≤ 8) {sc : Int32} {pl pw : Nat → Int32} : ∀ (D : List Nat) (k : Nat) (v : Int32), Tr n pl v sc D → k + D.length ≤ 9 → ∀ fuel, D.length < fuel → lp (f_X8_rail_b1 (ii n) sc pl pw) fuel (hd D, ii k) = some 0 := by
  intro D
  induction D with
  | nil =>
    intro k v hT hk fuel hf
    obtain ⟨f, rfl⟩ : ∃ f, fuel = f + 1 := ⟨fuel - 1, by simp at hf; omega⟩
    have hk9 : k ≤ 9 := by simpa using hk
    rw [lp_st]
    unfold f_X8_rail_b1
    rw [if_pos (show hd [] = (-1 : Int32) from rfl), gd_t (r17 k hk9), gd_t (vin_ii (show k < 17 by omega) (by omega)), gd_t (rtok k hk9)]
  | cons i D ih =>
    intro k v hT hk fuel hf
    obtain ⟨f, rfl⟩ : ∃ f, fuel = f + 1 := ⟨fuel - 1, by simp at hf; omega⟩
    have hk9 : k + (D.length + 1) ≤ 9 := hk
    have hf9 : D.length + 1 < f + 1 := hf
    have hi : i < n := hT.lt
    have e1 : hd (i :: D) = ii i := rfl
    rw [lp_st]
    unfold f_X8_rail_b1
    simp only [e1]
    have hv : vin (ii i) 8 = true := vin_ii (by omega) (by omega)
    have hK := ih (k + 1) (pl i) hT.tail (by omega) f (by omega)
    have hN : f_X8_next (pl (ii i).toNatClampNeg) (ii n) sc pl = some (hd D) := by rw [ii_cl (show i < 100000 by omega)]; exact next_hd hn hT.tail
    have e2 : ii k + (1 : Int32) = ii (k + 1) := ii_s k
    have g1 := r17 k (by omega)
    have g2 : vin (ii k) 17 = true := vin_ii (by omega) (by omega)
    rw [if_neg (ii_ne (by omega)), gd_t hv]
    by_cases c1 : pw (ii i).toNatClampNeg = 0
    · rw [if_pos c1, gd_t g1, gd_t g2, gd_t hv, bd_s hN, e2]; exact hK
    · rw [if_neg c1, gd_t hv]
      by_cases c2 : pw (ii i).toNatClampNeg ≤ 0
      · rw [if_pos c2, gd_t g1, gd_t g2, gd_t hv, bd_s hN, e2]; exact hK
      · rw [if_neg c2, gd_t g1, gd_t g2, gd_t hv, bd_s hN, e2]; exact hK
theorem LM_rail {n : Nat} {pl hf pw gl : Nat → Int32} {th sc ta : Int32} (hG : Gd n pl hf pw gl th sc ta) (N P H : Nat → Int32) (B : Nat → UInt64) : ∃ k t w N' P' H' B', f_X6_rail (ii n) th sc pl hf pw gl N P H B = some (k, t, w, N', P', H', B') ∧ f_X8_rail (ii n) th sc pl pw = some 0 := by
  obtain ⟨L, hT⟩ := ex_tr hG sc
  obtain ⟨N', P', H', B', q1, -⟩ := gline hG co1 hT N P H B
  have hn : n ≤ 8 := hG.1
  have hL : L.length ≤ 8 := Nat.le_trans hT.2.2 hn
  refine ⟨ii L.length, th, sc, N', P', H', B', ?_, ?_⟩
  · unfold f_X6_rail
    rw [bd_s q1, gd_t (by decide +kernel), gd_t (by decide +kernel), show ((0 : Int32), (0 + (1 : Int32))) = (ii 0, ii (0 + 1)) from by decide +kernel]
    exact rail6_lp (n := L.length) hL rfl L.length 0 (by omega) 1000 (by omega)
  · unfold f_X8_rail
    rw [bd_s (next_hd hn hT)]
    rw [show ((0 : Int32) + (1 : Int32)) = ii 1 from by decide +kernel]
    exact rail8_lp hn L 1 th hT (by omega) 1000 (by omega)
end PureRail
