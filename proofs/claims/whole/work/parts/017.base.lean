/-! PURE STATE: the bench as both hold it; what is refused; where something stands. -/
section PureState
theorem bd_i {α β : Type} (a : α) (k : α → Option β) : bd (some a) k = k a := rfl
theorem bx_i {α β : Type} (a : α) (k : α → Option (String ⊕ β)) : bx (some (.inr a)) k = k a := rfl
theorem bx_e {α β : Type} (E : String) (k : α → Option (String ⊕ β)) : bx (some (.inl E)) k = some (.inl E) := rfl
theorem bn_i {α β : Type} (a : α) (k : α → Option β) : bn (some (.inr a)) k = k a := rfl
theorem bt_i {α β : Type} (a : α) (kx : String → Option β) (k : α → Option β) : bt (some (.inr a)) kx k = k a := rfl
theorem bt_x {α β : Type} (E : String) (kx : String → Option β) (k : α → Option β) : bt (some (.inl E)) kx k = kx E := rfl
theorem gd_i {α : Type} (x : Option α) : gd true x = x := rfl
theorem i10 : ((1 : Int32) = 0) = False := eq_false (by decide)
theorem iL (a b : Int32) : a < b ↔ a.toInt < b.toInt := Int32.lt_iff_toInt_lt
theorem iE (a b : Int32) : a ≤ b ↔ a.toInt ≤ b.toInt := Int32.le_iff_toInt_le
theorem ite_lr {α : Type} {c d : Prop} [Decidable c] [Decidable d] {a b : α} (h : c ↔ d) : (if c then a else b) = if d then a else b := by
  by_cases hc : c
  · rw [if_pos hc, if_pos (h.mp hc)]
  · rw [if_neg hc, if_neg (fun hd => hc (h.mpr hd))]
theorem is8 (v lo hi : Int32) : f_X8_is v lo hi = some (if lo.toInt ≤ v.toInt ∧ v.toInt ≤ hi.toInt then 1 else 0) := by
  unfold f_X8_is
  by_cases h1 : v < lo
  · rw [if_pos h1, if_neg (fun h => by rw [iL] at h1; omega)]
  · rw [if_neg h1]
    by_cases h2 : hi < v
    · rw [if_pos h2, if_neg (fun h => by rw [iL] at h2; omega)]
    · rw [if_neg h2, if_pos (by rw [iL] at h1 h2; omega)]
theorem needs {lo hi : Int32} {E : String} (v : Int32) : (if v < lo then some (.inl E) else (if v ≤ hi then some (.inr ()) else some (.inl E)) : Option (String ⊕ Unit)) = some (if lo.toInt ≤ v.toInt ∧ v.toInt ≤ hi.toInt then .inr () else .inl E) := by
  by_cases h1 : v < lo
  · rw [if_pos h1, if_neg (fun h => by rw [iL] at h1; omega)]
  · rw [if_neg h1]
    by_cases h2 : v ≤ hi
    · rw [if_pos h2, if_pos (by rw [iL] at h1; rw [iE] at h2; omega)]
    · rw [if_neg h2, if_neg (by rw [iE] at h2; omega)]
theorem needPlace6 (v : Int32) : f_X6_needPlace v = some (if (0 : Int32).toInt ≤ v.toInt ∧ v.toInt ≤ (99 : Int32).toInt then .inr () else .inl "java/lang/IndexOutOfBoundsException") := needs v
theorem needHalf6 (v : Int32) : f_X6_needHalf v = some (if (1 : Int32).toInt ≤ v.toInt ∧ v.toInt ≤ (20 : Int32).toInt then .inr () else .inl "java/lang/IllegalArgumentException") := needs v
theorem needColour6 (v : Int32) : f_X6_needColour v = some (if (0 : Int32).toInt ≤ v.toInt ∧ v.toInt ≤ (2 : Int32).toInt then .inr () else .inl "java/lang/IllegalArgumentException") := needs v
theorem needWhat6 (v w : Int32) : f_X6_needWhat v w = some (if (0 : Int32).toInt ≤ v.toInt ∧ v.toInt ≤ w.toInt then .inr () else .inl "java/lang/IllegalArgumentException") := needs v
theorem ii_sub1 {n : Nat} (hn : n ≤ 8) : (ii n - 1).toInt = (n : Int) - 1 := by
  rw [Int32.toInt_sub, ii_int (by omega)]
  show ((n : Int) - 1).bmod _ = _
  rw [Int.bmod_eq_of_le (by omega) (by omega)]
/-- a piece's number -/
def isP (n : Nat) (v : Int32) : Prop := 0 ≤ v.toInt ∧ v.toInt < (n : Int)
theorem isP_ii {n : Nat} {v : Int32} (h : isP n v) : ∃ k, k < n ∧ v = ii k := by
  refine ⟨v.toInt.toNat, by have := h.1; have := h.2; omega, ?_⟩
  refine Int32.toInt_inj.mp ?_
  have h1 := v.toInt_lt
  rw [show ii v.toInt.toNat = Int32.ofNat v.toInt.toNat from rfl, Int32.toInt_ofNat_of_lt (by have := h.1; omega)]
  have := h.1
  omega
theorem isPiece8 {n : Nat} (hn : n ≤ 8) (v : Int32) : (isP n v → f_X8_isPiece v (ii n) = some 1) ∧ (¬ isP n v → f_X8_isPiece v (ii n) = some 0) := by
  unfold f_X8_isPiece isP
  rw [is8, ii_sub1 hn]
  have h0 : (0 : Int32).toInt = 0 := rfl
  constructor
  · intro h
    rw [if_pos (by omega)]
    rfl
  · intro h
    rw [if_neg (by omega)]
    rfl
theorem needPiece6 {n : Nat} (hn : n ≤ 8) (v : Int32) : (isP n v → f_X6_needPiece v (ii n) = some (.inr ())) ∧ (¬ isP n v → f_X6_needPiece v (ii n) = some (.inl "java/lang/IndexOutOfBoundsException")) := by
  unfold f_X6_needPiece f_X6_isPiece isP
  have hn2 := ii_int (show n < 100000 by omega)
  constructor
  · intro h
    rw [if_neg (show ¬ v < 0 by rw [iL]; show ¬ v.toInt < 0; omega), if_neg (show ¬ ii n ≤ v by rw [iE]; omega), if_neg (show ¬ (8 : Int32) ≤ v by rw [iE]; show ¬ (8 : Int) ≤ v.toInt; omega)]
    rfl
  · intro h
    by_cases h1 : v < 0
    · rw [if_pos h1]; rfl
    · rw [if_neg h1, if_pos (show ii n ≤ v by rw [iL] at h1; rw [iE]; have h1 : ¬ v.toInt < 0 := h1; omega)]; rfl
/-- the bench -/
def Gd (n : Nat) (pl hf pw gl : Nat → Int32) (th sc ta : Int32) : Prop := n ≤ 8 ∧ (∀ i, i < n → 0 ≤ (pl i).toInt ∧ (pl i).toInt ≤ 99) ∧ (∀ i j, i < n → j < n → i ≠ j → (pl i).toInt ≠ (pl j).toInt) ∧ (∀ i, i < n → 1 ≤ (hf i).toInt ∧ (hf i).toInt ≤ 20) ∧ (∀ i, i < n → pg (pw i) (gl i)) ∧ 0 ≤ th.toInt ∧ th.toInt < sc.toInt ∧ sc.toInt ≤ 99 ∧ 0 ≤ ta.toInt ∧ ta.toInt ≤ 80
section Where
variable {n : Nat} {q : Nat → Int32}
theorem at_lp (hn : n ≤ 8) (w : Int32) : ∀ (j k : Nat), n = k + j → (∀ i, i < k → q i ≠ w) → ∀ fuel, j < fuel → ∃ r, lp (f_X8_at_b1 w (ii n) q) fuel (ii k) = some r ∧ ((r = -1 ∧ ∀ i, i < n → q i ≠ w) ∨ ∃ b, b < n ∧ r = ii b ∧ q b = w) := by
  intro j
  induction j with
  | zero =>
    intro k hk hb fuel hf9
    obtain ⟨f, rfl⟩ := Nat.exists_eq_succ_of_ne_zero (show fuel ≠ 0 by omega)
    rw [lp_st]
    generalize lp (f_X8_at_b1 w (ii n) q) f = K
    refine ⟨-1, ?_, Or.inl ⟨rfl, fun i hi => hb i (by omega)⟩⟩
    unfold f_X8_at_b1
    exact if_pos ((ii_le (by omega) (by omega)).mpr (by omega))
  | succ j ih =>
    intro k hk hb fuel hf9
    obtain ⟨f, rfl⟩ := Nat.exists_eq_succ_of_ne_zero (show fuel ≠ 0 by omega)
    have ih := fun h => ih (k + 1) (by omega) h f (by omega)
    rw [lp_st]
    generalize lp (f_X8_at_b1 w (ii n) q) f = K at ih ⊢
    unfold f_X8_at_b1
    have hv : vin (ii k) 8 = true := vin_ii (by omega) (by omega)
    rw [if_neg (fun h => absurd ((ii_le (by omega) (by omega)).mp h) (by omega)), gd_t hv, ii_cl (show k < 100000 by omega)]
    by_cases e : q k = w
    · rw [if_pos e]
      exact ⟨ii k, rfl, Or.inr ⟨k, by omega, rfl, e⟩⟩
    · rw [if_neg e, ii_s]
      refine ih (fun i hi => ?_)
      rcases Nat.lt_succ_iff_lt_or_eq.mp hi with h6 | h6
      · exact hb i h6
      · subst h6; exact e
theorem at_sp (hn : n ≤ 8) (w : Int32) : ∃ r, f_X8_at w (ii n) q = some r ∧ ((r = -1 ∧ ∀ i, i < n → q i ≠ w) ∨ ∃ b, b < n ∧ r = ii b ∧ q b = w) := at_lp hn w n 0 (by omega) (fun i hi => absurd hi (Nat.not_lt_zero _)) 1000 (by omega)
theorem tk_lp (hn : n ≤ 8) (w p : Int32) : ∀ (j k : Nat), n = k + j → (∀ i, i < k → ii i ≠ p → q i ≠ w) → ∀ fuel, j < fuel → ∃ r, lp (f_X6_isTakenByOther_b1 w p (ii n) q) fuel (ii k) = some r ∧ ((r = 0 ∧ ∀ i, i < n → ii i ≠ p → q i ≠ w) ∨ (r = 1 ∧ ∃ b, b < n ∧ ii b ≠ p ∧ q b = w)) := by
  intro j
  induction j with
  | zero =>
    intro k hk hb fuel hf9
    obtain ⟨f, rfl⟩ := Nat.exists_eq_succ_of_ne_zero (show fuel ≠ 0 by omega)
    rw [lp_st]
    generalize lp (f_X6_isTakenByOther_b1 w p (ii n) q) f = K
    refine ⟨0, ?_, Or.inl ⟨rfl, fun i hi => hb i (by omega)⟩⟩
    unfold f_X6_isTakenByOther_b1
    exact if_pos ((ii_le (by omega) (by omega)).mpr (by omega))
  | succ j ih =>
    intro k hk hb fuel hf9
    obtain ⟨f, rfl⟩ := Nat.exists_eq_succ_of_ne_zero (show fuel ≠ 0 by omega)
    have ih := fun h => ih (k + 1) (by omega) h f (by omega)
    rw [lp_st]
    generalize lp (f_X6_isTakenByOther_b1 w p (ii n) q) f = K at ih ⊢
    unfold f_X6_isTakenByOther_b1
    have hv : vin (ii k) 8 = true := vin_ii (by omega) (by omega)
    rw [if_neg (fun h => absurd ((ii_le (by omega) (by omega)).mp h) (by omega)), gd_t hv, ii_cl (show k < 100000 by omega), ii_s]
    by_cases e0 : ii k = p
    · rw [if_pos e0]
      refine ih (fun i hi hne => ?_)
      rcases Nat.lt_succ_iff_lt_or_eq.mp hi with h6 | h6
      · exact hb i h6 hne
      · subst h6; exact absurd e0 hne
    · rw [if_neg e0]
      by_cases e : q k = w
      · rw [if_pos e]
        exact ⟨1, rfl, Or.inr ⟨rfl, k, by omega, e0, e⟩⟩
      · rw [if_neg e]
        refine ih (fun i hi hne => ?_)
        rcases Nat.lt_succ_iff_lt_or_eq.mp hi with h6 | h6
        · exact hb i h6 hne
        · subst h6; exact e
theorem tk_sp (hn : n ≤ 8) (w p : Int32) : ∃ r, f_X6_isTakenByOther w p (ii n) q = some r ∧ ((r = 0 ∧ ∀ i, i < n → ii i ≠ p → q i ≠ w) ∨ (r = 1 ∧ ∃ b, b < n ∧ ii b ≠ p ∧ q b = w)) := tk_lp hn w p n 0 (by omega) (fun i hi => absurd hi (Nat.not_lt_zero _)) 1000 (by omega)
/-- both searches say the same -/
theorem at_tk (hn : n ≤ 8) (hd9 : ∀ i j, i < n → j < n → i ≠ j → (q i).toInt ≠ (q j).toInt) (w p : Int32) : ∃ a t, f_X8_at w (ii n) q = some a ∧ f_X6_isTakenByOther w p (ii n) q = some t ∧ ((t = 0 ∧ (a = -1 ∨ a = p) ∧ (∀ i, i < n → ii i ≠ p → q i ≠ w)) ∨ (t = 1 ∧ a ≠ -1 ∧ a ≠ p)) := by
  obtain ⟨a, h1, h2⟩ := at_sp (q := q) hn w
  obtain ⟨t, h3, h4⟩ := tk_sp (q := q) hn w p
  refine ⟨a, t, h1, h3, ?_⟩
  rcases h4 with ⟨h5, h6⟩ | ⟨h5, b, h6, h7, h8⟩
  · refine Or.inl ⟨h5, ?_, h6⟩
    rcases h2 with ⟨h7, _⟩ | ⟨b, h7, h8, h9⟩
    · exact Or.inl h7
    · by_cases e : ii b = p
      · exact Or.inr (h8.trans e)
      · exact absurd h9 (h6 b h7 e)
  · refine Or.inr ⟨h5, ?_⟩
    rcases h2 with ⟨h9, h10⟩ | ⟨c, h9, h10, h11⟩
    · exact absurd h8 (h10 b h6)
    · have e : c = b := by
        refine Decidable.byContradiction fun hne => ?_
        exact hd9 c b h9 h6 hne (by rw [h11, h8])
      subst e
      rw [h10]
      exact ⟨ii_ne (by omega), h7⟩
end Where
end PureState
