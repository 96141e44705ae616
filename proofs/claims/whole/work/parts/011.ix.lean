/-! PURE INDICES: small numbers as ints; the next piece along the rail; the train as a list. -/
section PureIx
abbrev ii (k : Nat) : Int32 := Int32.ofNat k
theorem ii_int {k : Nat} (h : k < 100000) : (ii k).toInt = (k : Int) := Int32.toInt_ofNat_of_lt (by omega)
theorem ii_cl {k : Nat} (h : k < 100000) : (ii k).toNatClampNeg = k := Int32.toNatClampNeg_ofNat_of_lt (by omega)
theorem ii_s (k : Nat) : ii k + 1 = ii (k + 1) := (Int32.ofNat_add k 1).symm
theorem ii_p {k : Nat} (h : 1 ≤ k) : ii k - 1 = ii (k - 1) := (Int32.ofNat_sub k 1 h).symm
theorem ii_m {k : Nat} (h : 1 ≤ k) : ii k + (-1 : Int32) = ii (k - 1) := by
  rw [← ii_p h]; exact (Int32.sub_eq_add_neg _ _).symm
theorem ii_le {a b : Nat} (ha : a < 100000) (hb : b < 100000) : ii a ≤ ii b ↔ a ≤ b := by
  rw [Int32.le_iff_toInt_le, ii_int ha, ii_int hb]; omega
theorem ii_lt {a b : Nat} (ha : a < 100000) (hb : b < 100000) : ii a < ii b ↔ a < b := by
  rw [Int32.lt_iff_toInt_lt, ii_int ha, ii_int hb]; omega
theorem ii_eq {a b : Nat} (ha : a < 100000) (hb : b < 100000) : ii a = ii b ↔ a = b := by
  rw [← Int32.toInt_inj, ii_int ha, ii_int hb]; omega
theorem ii_ne {a : Nat} (ha : a < 100000) : ii a ≠ (-1 : Int32) := by
  intro h
  have h1 := congrArg Int32.toInt h
  rw [ii_int ha] at h1
  have h2 : (-1 : Int32).toInt = -1 := by decide
  omega
theorem vin_ii {k n : Nat} (h : k < n) (hn : n < 100000) : vin (ii k) n = true := by
  unfold vin
  rw [ii_cl (by omega)]
  have h1 : ¬ (ii k < 0) := by
    rw [Int32.lt_iff_toInt_lt, ii_int (by omega)]
    show ¬ ((k : Int) < 0)
    omega
  simp only [decide_eq_false h1, Bool.false_or, Bool.not_eq_true', decide_eq_false_iff_not]
  omega
theorem lp_st {σ β : Type} {body : σ → (σ → Option β) → Option β} {n : Nat} {s : σ} : lp body (n + 1) s = body s (lp body n) := rfl
/-- the head of the train, as a number -/
def hd : List Nat → Int32
  | [] => -1
  | i :: _ => ii i
/-- L are, in their order, those of the first n that stand above lo and below hi -/
def Tr (n : Nat) (q : Nat → Int32) (lo hi : Int32) (L : List Nat) : Prop := L.Pairwise (fun i j => (q i).toInt < (q j).toInt) ∧ (∀ i, i ∈ L ↔ i < n ∧ lo.toInt < (q i).toInt ∧ (q i).toInt < hi.toInt) ∧ L.length ≤ n
theorem Tr.tail {n : Nat} {q : Nat → Int32} {lo hi : Int32} {i : Nat} {L : List Nat} (h : Tr n q lo hi (i :: L)) : Tr n q (q i) hi L := by
  obtain ⟨h1, h2, h3⟩ := h
  rw [List.pairwise_cons] at h1
  refine ⟨h1.2, fun j => ?_, Nat.le_trans (Nat.le_succ _) h3⟩
  have hi := (h2 i).mp List.mem_cons_self
  constructor
  · intro hj
    have h4 := (h2 j).mp (List.mem_cons_of_mem _ hj)
    exact ⟨h4.1, h1.1 j hj, h4.2.2⟩
  · rintro ⟨a1, a2, a3⟩
    have h4 := (h2 j).mpr ⟨a1, by omega, a3⟩
    rcases List.mem_cons.mp h4 with h5 | h5
    · subst h5; omega
    · exact h5
theorem Tr.lt {n : Nat} {q : Nat → Int32} {lo hi : Int32} {i : Nat} {L : List Nat} (h : Tr n q lo hi (i :: L)) : i < n := ((h.2.1 i).mp List.mem_cons_self).1
theorem Tr.uniq {n : Nat} {q : Nat → Int32} {hi : Int32} : ∀ {L M : List Nat} {lo : Int32}, Tr n q lo hi L → Tr n q lo hi M → L = M
  | [], [], _, _, _ => rfl
  | [], j :: M, lo, h, h9 => by
    have h1 := (h.2.1 j).mpr ((h9.2.1 j).mp List.mem_cons_self)
    cases h1
  | i :: L, [], lo, h, h9 => by
    have h1 := (h9.2.1 i).mpr ((h.2.1 i).mp List.mem_cons_self)
    cases h1
  | i :: L, j :: M, lo, h, h9 => by
    have h1 := (h.2.1 j).mpr ((h9.2.1 j).mp List.mem_cons_self)
    have h2 := (h9.2.1 i).mpr ((h.2.1 i).mp List.mem_cons_self)
    have h3 := List.pairwise_cons.mp h.1
    have h4 := List.pairwise_cons.mp h9.1
    have h5 : i = j := by
      rcases List.mem_cons.mp h1 with e | e
      · exact e.symm
      · rcases List.mem_cons.mp h2 with e2 | e2
        · exact e2
        · have := h3.1 j e
          have := h4.1 i e2
          omega
    subst h5
    rw [Tr.uniq h.tail h9.tail]
/-- what the search for the next piece knows behind k of them -/
def NB (q : Nat → Int32) (w hi : Int32) (k : Nat) (r : Int32) : Prop := (r = -1 ∧ ∀ i, i < k → ¬ (w.toInt < (q i).toInt ∧ (q i).toInt < hi.toInt)) ∨ ∃ b, b < k ∧ r = ii b ∧ w.toInt < (q b).toInt ∧ (q b).toInt < hi.toInt ∧ ∀ i, i < k → w.toInt < (q i).toInt → (q i).toInt < hi.toInt → (q b).toInt ≤ (q i).toInt
theorem NB.skip {q : Nat → Int32} {w hi : Int32} {k : Nat} {r : Int32} (h : NB q w hi k r) (hk : ¬ (w.toInt < (q k).toInt ∧ (q k).toInt < hi.toInt)) : NB q w hi (k + 1) r := by
  rcases h with ⟨h1, h2⟩ | ⟨b, h1, h2, h3, h4, h5⟩
  · refine Or.inl ⟨h1, fun i hi => ?_⟩
    rcases Nat.lt_succ_iff_lt_or_eq.mp hi with h6 | h6
    · exact h2 i h6
    · subst h6; exact hk
  · refine Or.inr ⟨b, by omega, h2, h3, h4, fun i hi a1 a2 => ?_⟩
    rcases Nat.lt_succ_iff_lt_or_eq.mp hi with h6 | h6
    · exact h5 i h6 a1 a2
    · subst h6; exact absurd ⟨a1, a2⟩ hk
theorem next_lp {n : Nat} {q : Nat → Int32} {w hi : Int32} (hn : n ≤ 8) : ∀ (j k : Nat) (r : Int32), n = k + j → NB q w hi k r → ∀ fuel, j < fuel → ∃ r', lp (f_X8_next_b1 w (ii n) hi q) fuel (ii k, r) = some r' ∧ NB q w hi n r' := by
  intro j
  induction j with
  | zero =>
    intro k r hk hb fuel hf
    obtain ⟨f, rfl⟩ := Nat.exists_eq_succ_of_ne_zero (Nat.ne_of_gt hf)
    refine ⟨r, ?_, by rw [hk]; exact hb⟩
    show f_X8_next_b1 _ _ _ _ _ _ = _
    unfold f_X8_next_b1
    exact if_pos ((ii_le (by omega) (by omega)).mpr (by omega))
  | succ j ih =>
    intro k r hk hb fuel hf
    obtain ⟨f, rfl⟩ := Nat.exists_eq_succ_of_ne_zero (show fuel ≠ 0 by omega)
    have hv : vin (ii k) 8 = true := vin_ii (by omega) (by omega)
    have go : ∀ r, NB q w hi (k + 1) r → ∃ r', lp (f_X8_next_b1 w (ii n) hi q) f (ii k + 1, r) = some r' ∧ NB q w hi n r' := fun r h => by
      rw [ii_s]; exact ih (k + 1) r (by omega) h f (by omega)
    show ∃ r', f_X8_next_b1 _ _ _ _ _ _ = _ ∧ _
    unfold f_X8_next_b1
    simp only [gd_t hv, ii_cl (show k < 100000 by omega)]
    rw [if_neg (fun h => absurd ((ii_le (by omega) (by omega)).mp h) (by omega))]
    by_cases c1 : q k ≤ w
    · rw [if_pos c1]
      rw [Int32.le_iff_toInt_le] at c1
      exact go r (hb.skip (by omega))
    · rw [if_neg c1]
      by_cases c2 : hi ≤ q k
      · rw [if_pos c2]
        rw [Int32.le_iff_toInt_le] at c2
        exact go r (hb.skip (by omega))
      · rw [if_neg c2]
        rw [Int32.le_iff_toInt_le] at c1 c2
        rcases hb with ⟨h1, h2⟩ | ⟨b, h1, h2, h3, h4, h5⟩
        · rw [if_pos h1]
          refine go _ (Or.inr ⟨k, by omega, rfl, by omega, by omega, fun i hi a1 a2 => ?_⟩)
          rcases Nat.lt_succ_iff_lt_or_eq.mp hi with h6 | h6
          · exact absurd ⟨a1, a2⟩ (h2 i h6)
          · subst h6; exact Int.le_refl _
        · subst h2
          rw [if_neg (ii_ne (by omega)), gd_t (vin_ii (show b < 8 by omega) (by omega)), ii_cl (show b < 100000 by omega)]
          by_cases c3 : q b ≤ q k
          · rw [if_pos c3]
            rw [Int32.le_iff_toInt_le] at c3
            refine go _ (Or.inr ⟨b, by omega, rfl, h3, h4, fun i hi a1 a2 => ?_⟩)
            rcases Nat.lt_succ_iff_lt_or_eq.mp hi with h6 | h6
            · exact h5 i h6 a1 a2
            · subst h6; exact c3
          · rw [if_neg c3]
            rw [Int32.le_iff_toInt_le] at c3
            refine go _ (Or.inr ⟨k, by omega, rfl, by omega, by omega, fun i hi a1 a2 => ?_⟩)
            rcases Nat.lt_succ_iff_lt_or_eq.mp hi with h6 | h6
            · have := h5 i h6 a1 a2
              omega
            · subst h6; exact Int.le_refl _
/-- the next piece is the head of the train -/
theorem next_hd {n : Nat} {q : Nat → Int32} {w hi : Int32} {L : List Nat} (hn : n ≤ 8) (h : Tr n q w hi L) : f_X8_next w (ii n) hi q = some (hd L) := by
  obtain ⟨r, h1, h2⟩ := next_lp (q := q) (w := w) (hi := hi) hn n 0 (-1) (by omega) (Or.inl ⟨rfl, fun i hi => absurd hi (Nat.not_lt_zero _)⟩) 1000 (by omega)
  show lp _ 1000 _ = _
  rw [show ((0 : Int32), (-1 : Int32)) = (ii 0, (-1 : Int32)) from rfl, h1]
  congr 1
  cases L with
  | nil =>
    rcases h2 with ⟨h3, _⟩ | ⟨b, h3, h4, h5, h6, h7⟩
    · exact h3
    · have := (h.2.1 b).mpr ⟨h3, h5, h6⟩
      cases this
  | cons i L =>
    have hi := (h.2.1 i).mp List.mem_cons_self
    rcases h2 with ⟨h3, h4⟩ | ⟨b, h3, h4, h5, h6, h7⟩
    · exact absurd ⟨hi.2.1, hi.2.2⟩ (h4 i hi.1)
    · rw [h4]
      have h8 := h7 i hi.1 hi.2.1 hi.2.2
      rcases List.mem_cons.mp ((h.2.1 b).mpr ⟨h3, h5, h6⟩) with h9 | h9
      · subst h9; rfl
      · have := (List.pairwise_cons.mp h.1).1 b h9
        omega
end PureIx
