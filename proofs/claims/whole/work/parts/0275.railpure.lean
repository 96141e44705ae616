/-! RAIL: its text, letter by letter, on both sides. -/
section PureRail
theorem r16 : ∀ k, k ≤ 9 → decide (ii k + (1 : Int32) - Int32.ofNat 16 ≤ 0) = true := by decide +kernel
theorem r17 : ∀ k, k ≤ 9 → decide (ii k + (1 : Int32) - Int32.ofNat 17 ≤ 0) = true := by decide +kernel
theorem rtok : ∀ k, k ≤ 9 → cntok (ii k + (1 : Int32)) = true := by decide +kernel
/-- the letter of a power -/
def sgn (x : Int32) : Int32 := if x = 0 then 124 else if x ≤ 0 then 41 else 40
/-- the text behind the first k letters: a letter a piece, then the end's -/
def tg (p : Nat → Int32) : List Nat → Nat → (Nat → Int32) → Nat → Int32
  | [], k, g => upd g k (vp_nar .byte ((35 : Int32)).toInt8.toInt32)
  | i :: D, k, g => tg p D (k + 1) (upd g k (vp_nar .byte (sgn (p i)).toInt8.toInt32))
theorem tg_congr {p : Nat → Int32} : ∀ (D : List Nat) (k : Nat) (g g2 : Nat → Int32), (∀ j, j < k → g j = g2 j) → ∀ j, j < k + D.length + 1 → tg p D k g j = tg p D k g2 j := by
  intro D
  induction D with
  | nil =>
    intro k g g2 h j hj
    have hj9 : j < k + 1 := hj
    show upd g k _ j = upd g2 k _ j
    unfold upd
    by_cases e : j = k
    · rw [if_pos e, if_pos e]
    · rw [if_neg e, if_neg e]; exact h j (by omega)
  | cons i D ih =>
    intro k g g2 h j hj
    have hj9 : j < k + (D.length + 1) + 1 := hj
    show tg p D (k + 1) _ j = tg p D (k + 1) _ j
    refine ih (k + 1) _ _ (fun a ha => ?_) j (by omega)
    unfold upd
    by_cases e : a = k
    · rw [if_pos e, if_pos e]
    · rw [if_neg e, if_neg e]; exact h a (by omega)
theorem pow_at {n i : Nat} (hn : n ≤ 8) (hi : i < n) (p : Nat → Int32) : f_X6_powerOf (ii i) (ii n) p = some (p i) := by
  unfold f_X6_powerOf f_X6_isPiece
  have h1 : ¬ ii i < 0 := by
    have := ii_int (show i < 100000 by omega)
    rw [iL, this]
    show ¬ (i : Int) < 0
    omega
  have h2 : ¬ ii n ≤ ii i := by rw [ii_le (by omega) (by omega)]; omega
  have h3 : ¬ (8 : Int32) ≤ ii i := by
    have e : (8 : Int32) = ii 8 := by decide +kernel
    rw [e, ii_le (by omega) (by omega)]; omega
  rw [if_neg h1, if_neg h2, if_neg h3, bd_i, if_neg (by decide), gd_t (vin_ii (show i < 8 by omega) (by omega)), ii_cl (by omega)]
theorem sign_at (x : Int32) : f_X6_signOf x = some (sgn x) := by
  unfold f_X6_signOf sgn
  by_cases h1 : x = 0
  · rw [if_pos h1, if_pos h1]
  · rw [if_neg h1, if_neg h1]
    by_cases h2 : x ≤ 0
    · rw [if_pos h2, if_pos h2]
    · rw [if_neg h2, if_neg h2]
theorem sign_ok (x : Int32) : decide (sgn x ≤ 255) = true := by
  unfold sgn
  by_cases h1 : x = 0
  · rw [if_pos h1]; decide
  · rw [if_neg h1]
    by_cases h2 : x ≤ 0
    · rw [if_pos h2]; decide
    · rw [if_neg h2]; decide
theorem rail6_lp {n : Nat} (hn : n ≤ 8) {p : Nat → Int32} {L : List Nat} (hL : L.length ≤ 8) (hlt : ∀ d ∈ L, d < n) {o : Int32 × Int32 × Int32 × (Nat → Int32) × (Nat → Int32) × (Nat → Int32) × (Nat → UInt64)} (ho : o.1 = ii L.length) (hN : ∀ k d, L[k]? = some d → o.2.2.2.1 k = ii d) :
    ∀ (D : List Nat) (k : Nat) (g : Nat → Int32), L.drop k = D → k + D.length = L.length → ∀ fuel, D.length < fuel → lp (f_X6_rail_b1 (ii n) p o) fuel (ii k, ii (k + 1), g) = some (o.1, o.2.1, o.2.2.1, o.2.2.2.1, o.2.2.2.2.1, o.2.2.2.2.2.1, o.2.2.2.2.2.2, ii (k + 1 + D.length + 1), tg p D (k + 1) g) := by
  intro D
  induction D with
  | nil =>
    intro k g hd hk fuel hf
    obtain ⟨f, rfl⟩ : ∃ f, fuel = f + 1 := ⟨fuel - 1, by simp at hf; omega⟩
    have hk9 : k = L.length := by simpa using hk
    rw [lp_st]
    unfold f_X6_rail_b1
    simp only []
    have hle : o.1 ≤ ii k := by rw [ho, hk9]; exact Int32.le_refl _
    rw [if_pos hle, gd_t (r16 (k + 1) (by omega)), gd_t (vin_ii (show k + 1 < 16 by omega) (by omega)), gd_t (rtok (k + 1) (by omega)), ii_cl (show k + 1 < 100000 by omega), show ii (k + 1) + (1 : Int32) = ii (k + 1 + 1) from ii_s (k + 1)]
    rfl
  | cons d D ih =>
    intro k g hd hk fuel hf
    obtain ⟨f, rfl⟩ : ∃ f, fuel = f + 1 := ⟨fuel - 1, by simp at hf; omega⟩
    have hk9 : k + (D.length + 1) = L.length := hk
    have hf9 : D.length + 1 < f + 1 := hf
    have hg : L[k]? = some d := by
      have e := List.getElem?_drop (xs := L) (i := k) (j := 0)
      rw [hd] at e
      exact e.symm
    have hdn : d < n := hlt d (List.mem_of_getElem? hg)
    have hd2 : L.drop (k + 1) = D := by rw [← List.tail_drop, hd]; rfl
    rw [lp_st]
    unfold f_X6_rail_b1
    simp only []
    have hle : ¬ o.1 ≤ ii k := by rw [ho, ii_le (by omega) (by omega)]; omega
    rw [if_neg hle, gd_t (vin_ii (show k < 8 by omega) (by omega)), ii_cl (show k < 100000 by omega), hN k d hg, bd_s (pow_at hn hdn p), bd_s (sign_at (p d)), gd_t (sign_ok (p d)), gd_t (r16 (k + 1) (by omega)), gd_t (vin_ii (show k + 1 < 16 by omega) (by omega)), ii_cl (show k + 1 < 100000 by omega), show ii k + (1 : Int32) = ii (k + 1) from ii_s k, show ii (k + 1) + (1 : Int32) = ii (k + 1 + 1) from ii_s (k + 1)]
    have h9 := ih (k + 1) (upd g (k + 1) (vp_nar .byte (sgn (p d)).toInt8.toInt32)) hd2 (by omega) f (by omega)
    refine Eq.trans h9 ?_
    rw [show k + 1 + 1 + D.length + 1 = k + 1 + (D.length + 1) + 1 by omega]
    rfl
theorem rail8_lp {n : Nat} (hn : n ≤ 8) {sc : Int32} {pl pw : Nat → Int32} : ∀ (D : List Nat) (k : Nat) (g : Nat → Int32) (v : Int32), Tr n pl v sc D → k + D.length ≤ 9 → ∀ fuel, D.length < fuel → lp (f_X8_rail_b1 (ii n) sc pl pw) fuel (hd D, ii k, g) = some (0, ii (k + D.length + 1), tg pw D k g) := by
  intro D
  induction D with
  | nil =>
    intro k g v hT hk fuel hf
    obtain ⟨f, rfl⟩ : ∃ f, fuel = f + 1 := ⟨fuel - 1, by simp at hf; omega⟩
    have hk9 : k ≤ 9 := by simpa using hk
    rw [lp_st]
    unfold f_X8_rail_b1
    simp only []
    rw [if_pos (show hd [] = (-1 : Int32) from rfl), gd_t (r17 k hk9), gd_t (vin_ii (show k < 17 by omega) (by omega)), gd_t (rtok k hk9), ii_cl (show k < 100000 by omega), show ii k + (1 : Int32) = ii (k + 1) from ii_s k]
    rfl
  | cons i D ih =>
    intro k g v hT hk fuel hf
    obtain ⟨f, rfl⟩ : ∃ f, fuel = f + 1 := ⟨fuel - 1, by simp at hf; omega⟩
    have hk9 : k + (D.length + 1) ≤ 9 := hk
    have hf9 : D.length + 1 < f + 1 := hf
    have hi : i < n := hT.lt
    have e1 : hd (i :: D) = ii i := rfl
    rw [lp_st]
    unfold f_X8_rail_b1
    simp only [e1]
    have hv : vin (ii i) 8 = true := vin_ii (by omega) (by omega)
    have hN : f_X8_next (pl (ii i).toNatClampNeg) (ii n) sc pl = some (hd D) := by rw [ii_cl (show i < 100000 by omega)]; exact next_hd hn hT.tail
    have e2 : ii k + (1 : Int32) = ii (k + 1) := ii_s k
    have e3 : (ii k).toNatClampNeg = k := ii_cl (by omega)
    have e4 : (ii i).toNatClampNeg = i := ii_cl (by omega)
    have g1 := r17 k (by omega)
    have g2 : vin (ii k) 17 = true := vin_ii (by omega) (by omega)
    have hK : ∀ x : Int32, sgn (pw i) = x → lp (f_X8_rail_b1 (ii n) sc pl pw) f (hd D, ii (k + 1), upd g k (vp_nar .byte x.toInt8.toInt32)) = some (0, ii (k + (i :: D).length + 1), tg pw (i :: D) k g) := by
      intro x hx
      have h9 := ih (k + 1) (upd g k (vp_nar .byte x.toInt8.toInt32)) (pl i) hT.tail (by omega) f (by omega)
      rw [h9, show k + 1 + D.length + 1 = k + (i :: D).length + 1 from by show k + 1 + D.length + 1 = k + (D.length + 1) + 1; omega, ← hx]
      rfl
    rw [if_neg (ii_ne (by omega)), gd_t hv]
    by_cases c1 : pw (ii i).toNatClampNeg = 0
    · rw [if_pos c1, gd_t g1, gd_t g2, gd_t hv, bd_s hN, e2, e3]
      exact hK 124 (by rw [e4] at c1; unfold sgn; rw [if_pos c1])
    · rw [if_neg c1, gd_t hv]
      by_cases c2 : pw (ii i).toNatClampNeg ≤ 0
      · rw [if_pos c2, gd_t g1, gd_t g2, gd_t hv, bd_s hN, e2, e3]
        exact hK 41 (by rw [e4] at c1 c2; unfold sgn; rw [if_neg c1, if_pos c2])
      · rw [if_neg c2, gd_t g1, gd_t g2, gd_t hv, bd_s hN, e2, e3]
        exact hK 40 (by rw [e4] at c1 c2; unfold sgn; rw [if_neg c1, if_neg c2])
theorem rt0 : ∀ j : Nat, j < 1 → upd (fun _ => 0) ((0 : Int32)).toNatClampNeg (vp_nar .byte ((84 : Int32)).toInt8.toInt32) j = va_cpy (fun j => (([[84]] : List (List Int32)).getD 0 []).getD j 0) (fun _ => 0) ((0 : Int32)).toNatClampNeg ((0 : Int32)).toNatClampNeg ((1 : Int32)).toNatClampNeg j := by
  intro j hj
  obtain rfl : j = 0 := by omega
  decide +kernel
theorem LM_rail {n : Nat} {pl hf pw gl : Nat → Int32} {th sc ta : Int32} (hG : Gd n pl hf pw gl th sc ta) (N P H : Nat → Int32) (B : Nat → UInt64) : ∃ k t w N' P' H' B' cA gA gB, f_X6_rail (ii n) th sc pl hf pw gl N P H B = some (k, t, w, N', P', H', B', cA, gA) ∧ f_X8_rail (ii n) th sc pl pw = some (0, cA, gB) ∧ txeq cA cA gA gB = true := by
  obtain ⟨L, hT⟩ := ex_tr hG sc
  obtain ⟨N', P', H', B', q1, hR⟩ := gline hG co1 hT N P H B
  have hn : n ≤ 8 := hG.1
  have hL : L.length ≤ 8 := Nat.le_trans hT.2.2 hn
  have e1 : (0 : Int32) + (1 : Int32) = ii (0 + 1) := by decide +kernel
  refine ⟨ii L.length, th, sc, N', P', H', B', ii (0 + 1 + L.length + 1), tg pw L (0 + 1) (upd (fun _ => 0) ((0 : Int32)).toNatClampNeg (vp_nar .byte ((84 : Int32)).toInt8.toInt32)), tg pw L (0 + 1) (va_cpy (fun j => (([[84]] : List (List Int32)).getD 0 []).getD j 0) (fun _ => 0) ((0 : Int32)).toNatClampNeg ((0 : Int32)).toNatClampNeg ((1 : Int32)).toNatClampNeg), ?_, ?_, ?_⟩
  · unfold f_X6_rail
    rw [bd_s q1, gd_t (by decide +kernel), gd_t (by decide +kernel), e1]
    exact rail6_lp hn hL (fun d hd => ((hT.2.1 d).mp hd).1) (o := (ii L.length, th, sc, N', P', H', B')) rfl (fun k d h => (hR k d h).1) L 0 _ rfl (Nat.zero_add _) 1000 (by omega)
  · unfold f_X8_rail
    rw [bd_s (next_hd hn hT), e1]
    exact rail8_lp hn L (0 + 1) _ th hT (by omega) 1000 (by omega)
  · have h1 : (ii (0 + 1 + L.length + 1)).toNatClampNeg = 0 + 1 + L.length + 1 := ii_cl (by omega)
    unfold txeq
    rw [Bool.and_eq_true, Bool.and_eq_true]
    refine ⟨⟨decide_eq_true (by rw [h1]; omega), decide_eq_true rfl⟩, List.all_eq_true.mpr fun i hi => decide_eq_true ?_⟩
    have hi9 := List.mem_range.mp hi
    rw [h1] at hi9
    exact tg_congr L (0 + 1) _ _ (fun j hj => rt0 j (by omega)) i hi9
end PureRail
