/-! PURE FAN: twenty-one rays, and what is counted of them. -/
section PureFan
def fk (i : Nat) : Int32 := Int32.ofInt ((i : Int) - 10)
theorem fk_int {i : Nat} (h : i < 1000) : (fk i).toInt = (i : Int) - 10 := Int32.toInt_ofInt_of_le (by omega) (by omega)
theorem fk_s {i : Nat} (h : i < 500) : fk i + 1 = fk (i + 1) := by
  refine Int32.toInt_inj.mp ?_
  rw [Int32.toInt_add, fk_int (by omega), fk_int (by omega)]
  show ((i : Int) - 10 + 1).bmod _ = _
  rw [Int.bmod_eq_of_le (by omega) (by omega)]
  omega
theorem fk_end {i : Nat} (h : i < 500) : (10 : Int32) < fk i ↔ 20 < i := by
  rw [Int32.lt_iff_toInt_lt, fk_int (by omega)]
  show (10 : Int) < _ ↔ _
  omega
def slp (i : Nat) : UInt64 := FP.ddiv (FP.i2d (fk i)) 4632233691727265792
theorem slp_ok {i : Nat} (h : i < 21) : ok (slp i) 1031 := by
  have h1 := fk_int (show i < 1000 by omega)
  exact ok_mono (k_ok (v := fk i) (by omega) (by omega)) (by omega)
abbrev Ray1 := UInt64 × UInt64 × Option (Nat × Nat)
def fan (q hf : Nat → Int32) (s : Nat → UInt64) (sc : Int32) (L : List Nat) (th : Int32) (top : UInt64) : Nat → Ray1 := fun i => rn q hf s sc L 0 th top (slp i)
def un (r : Ray1) : Bool := r.2.2.isNone
def cm (R : Nat → Ray1) : Nat → Nat
  | 0 => 0
  | i + 1 => cm R i + if un (R i) = true then 1 else 0
def lo_ (R : Nat → Ray1) (g : UInt64) : Nat → UInt64
  | 0 => g
  | i + 1 => if un (R i) = true then (if cm R i = 0 then (R i).1 else if ky (R i).1 < ky (lo_ R g i) then (R i).1 else lo_ R g i) else lo_ R g i
def hi_ (R : Nat → Ray1) (g : UInt64) : Nat → UInt64
  | 0 => g
  | i + 1 => if un (R i) = true then (if cm R i = 0 then (R i).1 else if ky (hi_ R g i) < ky (R i).1 then (R i).1 else hi_ R g i) else hi_ R g i
def cutAt (r : Ray1) (p : Nat) : Bool := match r.2.2 with
  | none => false
  | some x => decide (x.1 = p)
def ct (R : Nat → Ray1) (p : Nat) : Nat → Nat
  | 0 => 0
  | i + 1 => ct R p i + if cutAt (R i) p = true then 1 else 0
theorem cm_le (R : Nat → Ray1) : ∀ i, cm R i ≤ i
  | 0 => Nat.le_refl _
  | i + 1 => by
    have := cm_le R i
    unfold cm
    split <;> omega
theorem ct_le (R : Nat → Ray1) (p : Nat) : ∀ i, ct R p i ≤ i
  | 0 => Nat.le_refl _
  | i + 1 => by
    have := ct_le R p i
    unfold ct
    split <;> omega
/-- all heights are whole -/
def Rok (R : Nat → Ray1) : Prop := ∀ i, i < 21 → ok (R i).1 1400 ∧ ∀ x, (R i).2.2 = some x → x.1 < 8 ∧ x.2 < 8
theorem lo_ok {R : Nat → Ray1} (hR : Rok R) (g : UInt64) : ∀ i, i ≤ 21 → cm R i ≠ 0 → ok (lo_ R g i) 1400
  | 0, _, h => absurd rfl h
  | i + 1, hi, h => by
    have ih := lo_ok hR g i (by omega)
    have h2 := (hR i (by omega)).1
    unfold lo_
    unfold cm at h
    by_cases hu : un (R i) = true
    · rw [if_pos hu]
      by_cases hc : cm R i = 0
      · rw [if_pos hc]; exact h2
      · rw [if_neg hc]
        split
        · exact h2
        · exact ih hc
    · rw [if_neg hu] at h ⊢
      exact ih h
theorem hi_ok {R : Nat → Ray1} (hR : Rok R) (g : UInt64) : ∀ i, i ≤ 21 → cm R i ≠ 0 → ok (hi_ R g i) 1400
  | 0, _, h => absurd rfl h
  | i + 1, hi, h => by
    have ih := hi_ok hR g i (by omega)
    have h2 := (hR i (by omega)).1
    unfold hi_
    unfold cm at h
    by_cases hu : un (R i) = true
    · rw [if_pos hu]
      by_cases hc : cm R i = 0
      · rw [if_pos hc]; exact h2
      · rw [if_neg hc]
        split
        · exact h2
        · exact ih hc
    · rw [if_neg hu] at h ⊢
      exact ih h
theorem lo_le_hi {R : Nat → Ray1} (g g' : UInt64) : ∀ i, cm R i ≠ 0 → ¬ ky (hi_ R g' i) < ky (lo_ R g i)
  | 0, h => absurd rfl h
  | i + 1, h => by
    have ih := lo_le_hi (R := R) g g' i
    unfold lo_ hi_
    unfold cm at h
    by_cases hu : un (R i) = true
    · rw [if_pos hu, if_pos hu]
      by_cases hc : cm R i = 0
      · rw [if_pos hc, if_pos hc]; exact Int.lt_irrefl _
      · rw [if_neg hc, if_neg hc]
        have := ih hc
        split <;> split <;> omega
    · rw [if_neg hu] at h ⊢
      rw [if_neg hu]
      exact ih h
theorem lo_g {R : Nat → Ray1} (g g' : UInt64) : ∀ i, cm R i ≠ 0 → lo_ R g i = lo_ R g' i
  | 0, h => absurd rfl h
  | i + 1, h => by
    have ih := lo_g (R := R) g g' i
    unfold lo_
    unfold cm at h
    by_cases hu : un (R i) = true
    · rw [if_pos hu, if_pos hu]
      by_cases hc : cm R i = 0
      · rw [if_pos hc, if_pos hc]
      · rw [if_neg hc, if_neg hc, ih hc]
    · rw [if_neg hu] at h
      rw [if_neg hu, if_neg hu]
      exact ih h
theorem hi_g {R : Nat → Ray1} (g g' : UInt64) : ∀ i, cm R i ≠ 0 → hi_ R g i = hi_ R g' i
  | 0, h => absurd rfl h
  | i + 1, h => by
    have ih := hi_g (R := R) g g' i
    unfold hi_
    unfold cm at h
    by_cases hu : un (R i) = true
    · rw [if_pos hu, if_pos hu]
      by_cases hc : cm R i = 0
      · rw [if_pos hc, if_pos hc]
      · rw [if_neg hc, if_neg hc, ih hc]
    · rw [if_neg hu] at h
      rw [if_neg hu, if_neg hu]
      exact ih h
theorem arrive_sp {R : Nat → Ray1} (hR : Rok R) {g g' : UInt64} {i : Nat} (hi : i < 21) (hu : un (R i) = true) : f_X1_arrive (R i).1 (ii (cm R i)) (lo_ R g i) (hi_ R g' i) = some (ii (cm R (i + 1)), lo_ R g (i + 1), hi_ R g' (i + 1)) := by
  have hc9 : cm R (i + 1) = cm R i + 1 := by show cm R i + _ = _; rw [if_pos hu]
  have hl : lo_ R g (i + 1) = if cm R i = 0 then (R i).1 else if ky (R i).1 < ky (lo_ R g i) then (R i).1 else lo_ R g i := by show ite _ _ _ = _; rw [if_pos hu]
  have hh : hi_ R g' (i + 1) = if cm R i = 0 then (R i).1 else if ky (hi_ R g' i) < ky (R i).1 then (R i).1 else hi_ R g' i := by show ite _ _ _ = _; rw [if_pos hu]
  have hf := mg_fin (hR i hi).1.1 (by decide)
  have hcl := cm_le R i
  rw [hl, hh, hc9]
  unfold f_X1_arrive
  simp only [ii_s]
  by_cases hc : cm R i = 0
  · rw [if_pos (show ii (cm R i) = 0 by rw [hc]; rfl), if_pos (show ii (cm R i) = 0 by rw [hc]; rfl), if_pos hc, if_pos hc]
  · have hne : ¬ ii (cm R i) = 0 := fun h => hc ((ii_eq (b := 0) (by omega) (by omega)).mp h)
    rw [if_neg hne, if_neg hne, if_neg hne, if_neg hc, if_neg hc]
    rw [ky_cmp hf (mg_fin (lo_ok hR g i (by omega) hc).1 (by decide)), ky_cmp hf (mg_fin (hi_ok hR g' i (by omega) hc).1 (by decide))]
    by_cases c1 : ky (R i).1 < ky (lo_ R g i)
    · rw [if_neg (fun h => (cv_ge _ _ _).mp h c1), if_pos c1]
      by_cases c2 : ky (hi_ R g' i) < ky (R i).1
      · rw [if_neg (fun h => (cv_le _ _ _).mp h c2), if_pos c2]
      · rw [if_pos ((cv_le _ _ _).mpr c2), if_neg c2]
    · rw [if_pos ((cv_ge _ _ _).mpr c1), if_neg c1]
      by_cases c2 : ky (hi_ R g' i) < ky (R i).1
      · rw [if_neg (fun h => (cv_le _ _ _).mp h c2), if_pos c2]
      · rw [if_pos ((cv_le _ _ _).mpr c2), if_neg c2]
section Send
variable {q hf : Nat → Int32} {s : Nat → UInt64} {N P H : Nat → Int32} {B : Nat → UInt64} {th sc : Int32} {L : List Nat} {top : UInt64}
theorem fan_ok (hs : ∀ d ∈ L, mg (s d) 1024) (hk : L.length ≤ 8) (h8 : ∀ d ∈ L, d < 8) (ht : ok top 1031) : Rok (fan q hf s sc L th top) := by
  intro i hi
  refine ⟨(rn_ok (q := q) (hf := hf) (s := s) (sc := sc) L 0 th top (slp i) hs (by omega) ht (slp_ok hi)).1, fun x hx => ?_⟩
  have h := rn_cut _ _ _ _ _ _ hx
  have h1 := (List.getElem?_eq_some_iff.mp h.2).1
  exact ⟨by omega, h8 _ (List.mem_of_getElem? h.2)⟩
theorem send_b2 (hR : RI q hf s N P H B L) (hs : ∀ d ∈ L, mg (s d) 1024) (hk : L.length ≤ 8) (h8 : ∀ d ∈ L, d < 8) (ht : ok top 1031) (g g' : UInt64) :
    ∀ (j i : Nat) (rh ru : UInt64) (rc : Int32) (C : Nat → Int32), 21 = i + j → (∀ p, p < 8 → C p = ii (ct (fan q hf s sc L th top) p i)) → ∀ fuel, j < fuel →
    ∃ rh' ru' rc' C', lp (f_X1_send_b2 top (ii L.length) th sc P H B) fuel (fk i, ii (cm (fan q hf s sc L th top) i), lo_ (fan q hf s sc L th top) g i, hi_ (fan q hf s sc L th top) g' i, rh, ru, rc, C) = some (ii (cm (fan q hf s sc L th top) 21), lo_ (fan q hf s sc L th top) g 21, hi_ (fan q hf s sc L th top) g' 21, rh', ru', rc', C') ∧ ∀ p, p < 8 → C' p = ii (ct (fan q hf s sc L th top) p 21) := by
  have hrun := fun i (hi : i < 21) => run_sp (th := th) (sc := sc) hR hs hk ht (slp_ok hi)
  have hok := fan_ok (q := q) (hf := hf) (sc := sc) (th := th) hs hk h8 ht
  have hdef : ∀ i, rn q hf s sc L 0 th top (slp i) = fan q hf s sc L th top i := fun _ => rfl
  simp only [hdef] at hrun
  generalize fan q hf s sc L th top = R at hrun hok ⊢
  intro j
  induction j with
  | zero =>
    intro i rh ru rc C hi hC fuel hf9
    obtain ⟨f, rfl⟩ := Nat.exists_eq_succ_of_ne_zero (show fuel ≠ 0 by omega)
    rw [lp_st]
    generalize lp (f_X1_send_b2 top (ii L.length) th sc P H B) f = K
    have hi : i = 21 := by omega
    subst hi
    refine ⟨rh, ru, rc, C, ?_, hC⟩
    unfold f_X1_send_b2
    exact if_pos ((fk_end (by omega)).mpr (by omega))
  | succ j ih =>
    intro i rh ru rc C hi hC fuel hf9
    obtain ⟨f, rfl⟩ := Nat.exists_eq_succ_of_ne_zero (show fuel ≠ 0 by omega)
    have ih := fun rh ru rc C hC => ih (i + 1) rh ru rc C (by omega) hC f (by omega)
    rw [lp_st]
    generalize lp (f_X1_send_b2 top (ii L.length) th sc P H B) f = K at ih ⊢
    unfold f_X1_send_b2
    rw [if_neg (fun h => absurd ((fk_end (by omega)).mp h) (by omega))]
    have hn : n64 (FP.ddiv (FP.i2d (fk i)) 4632233691727265792) = true := mg_n (slp_ok (show i < 21 by omega)).1 (by decide)
    have h1 := hrun i (by omega)
    rw [show FP.ddiv (FP.i2d (fk i)) 4632233691727265792 = slp i from rfl] at hn
    simp only [show FP.ddiv (FP.i2d (fk i)) 4632233691727265792 = slp i from rfl]
    rw [gd_t hn, bd_s h1]
    simp only []
    cases hc : (R i).2.2 with
    | none =>
      have hu : un (R i) = true := by unfold un; rw [hc]; rfl
      rw [if_pos (show cp none < 0 by decide), bd_s (arrive_sp hok (by omega) hu), fk_s (by omega)]
      refine ih _ _ _ _ (fun p hp => ?_)
      rw [hC p hp]
      have : ct R p (i + 1) = ct R p i := by
        show ct R p i + _ = _
        rw [if_neg (by unfold cutAt; rw [hc]; exact Bool.false_ne_true)]
        exact Nat.add_zero _
      rw [this]
    | some x =>
      have hx := ((hok i (by omega)).2 x hc).1
      have hu : ¬ un (R i) = true := by unfold un; rw [hc]; exact Bool.false_ne_true
      have hcp : cp (some x) = ii x.1 := rfl
      have e1 : cm R (i + 1) = cm R i := by show cm R i + _ = _; rw [if_neg hu]; exact Nat.add_zero _
      have e2 : lo_ R g (i + 1) = lo_ R g i := by show ite _ _ _ = _; rw [if_neg hu]
      have e3 : hi_ R g' (i + 1) = hi_ R g' i := by show ite _ _ _ = _; rw [if_neg hu]
      rw [e1, e2, e3] at ih
      have hv : vin (ii x.1) 8 = true := vin_ii hx (by omega)
      rw [hcp, if_neg (show ¬ ii x.1 < 0 from fun h => absurd ((ii_lt (b := 0) (by omega) (by omega)).mp h) (by omega)), if_neg (show ¬ (8 : Int32) ≤ ii x.1 from fun h => absurd ((ii_le (a := 8) (by omega) (by omega)).mp h) (by omega)), gd_t hv, gd_t hv, fk_s (by omega), ii_cl (by omega)]
      refine ih _ _ _ _ (fun p hp => ?_)
      have ectp : ct R p (i + 1) = ct R p i + if x.1 = p then 1 else 0 := by
        show ct R p i + _ = _
        unfold cutAt
        rw [hc]
        simp only [decide_eq_true_eq]
      rw [ectp]
      unfold upd
      by_cases e : p = x.1
      · rw [if_pos e, if_pos e.symm, ← e, hC p hp, ii_s]
      · rw [if_neg e, if_neg (fun h => e h.symm), hC p hp]; rfl
theorem send_b1 (g g' rh ru : UInt64) (rc : Int32) : ∀ (j i : Nat) (C : Nat → Int32), 8 = i + j → (∀ p, p < i → C p = 0) → ∀ fuel, j < fuel →
    ∃ C', lp (f_X1_send_b1 top g g' rh ru rc (ii L.length) th sc P H B) fuel (ii i, C) = lp (f_X1_send_b2 top (ii L.length) th sc P H B) 1000 (fk 0, ii 0, g, g', rh, ru, rc, C') ∧ ∀ p, p < 8 → C' p = 0 := by
  intro j
  induction j with
  | zero =>
    intro i C hi hC fuel hf9
    obtain ⟨f, rfl⟩ := Nat.exists_eq_succ_of_ne_zero (show fuel ≠ 0 by omega)
    have hi : i = 8 := by omega
    subst hi
    refine ⟨C, ?_, hC⟩
    rw [lp_st]
    generalize lp (f_X1_send_b1 top g g' rh ru rc (ii L.length) th sc P H B) f = K
    unfold f_X1_send_b1
    exact if_pos (show (8 : Int32) ≤ ii 8 by decide)
  | succ j ih =>
    intro i C hi hC fuel hf9
    obtain ⟨f, rfl⟩ := Nat.exists_eq_succ_of_ne_zero (show fuel ≠ 0 by omega)
    have ih := fun C hC => ih (i + 1) C (by omega) hC f (by omega)
    rw [lp_st]
    generalize lp (f_X1_send_b1 top g g' rh ru rc (ii L.length) th sc P H B) f = K at ih ⊢
    unfold f_X1_send_b1
    have hv : vin (ii i) 8 = true := vin_ii (by omega) (by omega)
    rw [if_neg (show ¬ (8 : Int32) ≤ ii i from fun h => absurd ((ii_le (a := 8) (by omega) (by omega)).mp h) (by omega)), gd_t hv]
    simp only [ii_cl (show i < 100000 by omega), ii_s]
    refine ih _ (fun p hp => ?_)
    unfold upd
    split
    · rfl
    · exact hC p (by omega)
theorem send_sp (hR : RI q hf s N P H B L) (hs : ∀ d ∈ L, mg (s d) 1024) (hk : L.length ≤ 8) (h8 : ∀ d ∈ L, d < 8) (ht : ok top 1031) (g g' rh ru : UInt64) (rc : Int32) (C : Nat → Int32) :
    ∃ rh' ru' rc' C', f_X1_send top g g' rh ru rc C (ii L.length) th sc P H B = some (ii (cm (fan q hf s sc L th top) 21), lo_ (fan q hf s sc L th top) g 21, hi_ (fan q hf s sc L th top) g' 21, rh', ru', rc', C') ∧ ∀ p, p < 8 → C' p = ii (ct (fan q hf s sc L th top) p 21) := by
  obtain ⟨C1, h1, h2⟩ := send_b1 (top := top) (th := th) (sc := sc) (P := P) (H := H) (B := B) (L := L) g g' rh ru rc 8 0 C (by omega) (fun p hp => absurd hp (Nat.not_lt_zero _)) 1000 (by omega)
  obtain ⟨a, b, c, d, h3, h4⟩ := send_b2 (th := th) (sc := sc) hR hs hk h8 ht g g' 21 0 rh ru rc C1 (by omega) (fun p hp => h2 p hp) 1000 (by omega)
  refine ⟨a, b, c, d, ?_, h4⟩
  show lp (f_X1_send_b1 top g g' rh ru rc (ii L.length) th sc P H B) 1000 (ii 0, C) = _
  rw [h1]
  exact h3
end Send
end PureFan
