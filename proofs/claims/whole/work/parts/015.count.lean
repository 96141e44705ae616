/-! PURE COUNTS: light, blur, what comes through; class and reference. -/
section PureCount
/-- the blur of a fan -/
def spS (R : Nat → Ray1) : UInt64 := FP.dsub (hi_ R FP.dconst0 21) (lo_ R FP.dconst0 21)
theorem spS_ok {R : Nat → Ray1} (hR : Rok R) (h : cm R 21 ≠ 0) : ok (spS R) 1402 ∧ ¬ ky (spS R) < 0 := by
  have h1 := lo_ok hR FP.dconst0 21 (Nat.le_refl _) h
  have h2 := hi_ok hR FP.dconst0 21 (Nat.le_refl _) h
  have h3 : mg (spS R) 1402 := mg_sub h2.1 h1.1 (by decide)
  exact ⟨⟨h3, nz_sub (mg_fin h2.1 (by decide)) (mg_fin h1.1 (by decide)) h2.2⟩, sub_nn (mg_fin h2.1 (by decide)) (mg_fin h1.1 (by decide)) (mg_fin h3 (by decide)) (lo_le_hi _ _ _ h)⟩
def blS (R : Nat → Ray1) : UInt64 := if cm R 21 = 0 then 13830554455654793216 else spS R
theorem spread_sp {R : Nat → Ray1} (hR : Rok R) (g g' : UInt64) : f_X1_spread (ii (cm R 21)) (lo_ R g 21) (hi_ R g' 21) = some (if cm R 21 = 0 then FP.dconst0 else spS R) := by
  unfold f_X1_spread
  by_cases h : cm R 21 = 0
  · rw [if_pos (show ii (cm R 21) = 0 by rw [h]; rfl), if_pos h]
  · have hne : ¬ ii (cm R 21) = 0 := fun h9 => h ((ii_eq (b := 0) (by have := cm_le R 21; omega) (by omega)).mp h9)
    rw [if_neg hne, if_neg h, lo_g g FP.dconst0 21 h, hi_g g' FP.dconst0 21 h]
    exact gd_t (mg_n (spS_ok hR h).1.1 (by decide))
section Model
variable {n : Nat} {c p th sc tall : Int32} {pl hf pw gl : Nat → Int32} {L : List Nat}
abbrev topOf (tall : Int32) : UInt64 := FP.ddiv (FP.i2d tall) 4616189618054758400
theorem top_ok (h1 : 0 ≤ tall.toInt) (h2 : tall.toInt ≤ 80) : ok (topOf tall) 1031 := ok_mono (h_ok (by omega) h2) (by omega)
/-- the train without a piece -/
abbrev wo (p : Int32) (L : List Nat) : List Nat := L.filter (fun d => decide (ii d ≠ p))
theorem wo_fan_ok (hn : n ≤ 8) (hpg : ∀ i, i < n → pg (pw i) (gl i)) (hc : co c) (hT : Tr n pl th sc L) (ht : ok (topOf tall) 1031) : Rok (fan pl hf (bs pw gl c) sc (wo p L) th (topOf tall)) := by
  have hm : ∀ d ∈ wo p L, d < n := fun d hd => ((hT.2.1 d).mp (List.mem_filter.mp hd).1).1
  refine fan_ok (fun d hd => bv_mg (hpg d (hm d hd)) hc) ?_ (fun d hd => by have := hm d hd; omega) ht
  have h9 : (wo p L).length ≤ L.length := List.length_filter_le _ _
  have := hT.2.2
  omega
theorem cn_un {R : Nat → Ray1} (hR : Rok R) {i : Nat} (hi : i < 21) : cn (R i).2.2 = -1 ↔ un (R i) = true := by
  unfold un
  cases hc : (R i).2.2 with
  | none => exact ⟨fun _ => rfl, fun _ => rfl⟩
  | some x =>
    have := ((hR i hi).2 x hc).2
    exact ⟨fun h => absurd h (ii_ne (by omega)), fun h => absurd h Bool.false_ne_true⟩
theorem light_lp (hn : n ≤ 8) (hpg : ∀ i, i < n → pg (pw i) (gl i)) (hT : Tr n pl th sc L) (ht : ok (topOf tall) 1031) :
    ∀ (j i : Nat) (h u : UInt64) (c9 : Int32), 21 = i + j → ∀ fuel, j < fuel → ∃ h' u' c', lp (f_X8_light_b1 p (ii n) th sc tall pl hf pw gl) fuel (fk i, ii (cm (fan pl hf (bs pw gl 1) sc (wo p L) th (topOf tall)) i), h, u, c9) = some (ii (cm (fan pl hf (bs pw gl 1) sc (wo p L) th (topOf tall)) 21), h', u', c') := by
  have hco : co 1 := by unfold co; decide
  have hok := wo_fan_ok (p := p) (hf := hf) hn hpg hco hT ht
  have hgo := fun i (hi : i < 21) => go_sp (p := p) (hf := hf) hn hpg hco hT ht (slp_ok hi)
  have hdef : ∀ i, rn pl hf (bs pw gl 1) sc (L.filter (fun d => decide (ii d ≠ p))) 0 th (topOf tall) (slp i) = fan pl hf (bs pw gl 1) sc (wo p L) th (topOf tall) i := fun _ => rfl
  simp only [hdef] at hgo
  generalize fan pl hf (bs pw gl 1) sc (wo p L) th (topOf tall) = R at hgo hok ⊢
  intro j
  induction j with
  | zero =>
    intro i h u c9 hi fuel hf9
    obtain ⟨f, rfl⟩ := Nat.exists_eq_succ_of_ne_zero (show fuel ≠ 0 by omega)
    rw [lp_st]
    generalize lp (f_X8_light_b1 p (ii n) th sc tall pl hf pw gl) f = K
    have hi : i = 21 := by omega
    subst hi
    refine ⟨h, u, c9, ?_⟩
    unfold f_X8_light_b1
    exact if_pos ((fk_end (by omega)).mpr (by omega))
  | succ j ih =>
    intro i h u c9 hi fuel hf9
    obtain ⟨f, rfl⟩ := Nat.exists_eq_succ_of_ne_zero (show fuel ≠ 0 by omega)
    have ih := fun h u c => ih (i + 1) h u c (by omega) f (by omega)
    rw [lp_st]
    generalize lp (f_X8_light_b1 p (ii n) th sc tall pl hf pw gl) f = K at ih ⊢
    unfold f_X8_light_b1
    rw [if_neg (fun h => absurd ((fk_end (by omega)).mp h) (by omega))]
    have hn1 : n64 (slp i) = true := mg_n (slp_ok (show i < 21 by omega)).1 (by decide)
    simp only [show FP.ddiv (FP.i2d (fk i)) 4632233691727265792 = slp i from rfl]
    rw [gd_t (mg_n ht.1 (by decide)), gd_t hn1, bd_s (hgo i (by omega)), fk_s (by omega)]
    by_cases hu : un (R i) = true
    · rw [if_pos ((cn_un hok (by omega)).mpr hu), ii_s]
      have e1 : cm R (i + 1) = cm R i + 1 := by show cm R i + _ = _; rw [if_pos hu]
      rw [e1] at ih
      exact ih _ _ _
    · rw [if_neg (fun h => hu ((cn_un hok (by omega)).mp h))]
      have e1 : cm R (i + 1) = cm R i := by show cm R i + _ = _; rw [if_neg hu]; exact Nat.add_zero _
      rw [e1] at ih
      rw [show ii (cm R i) + (0 : Int32) = ii (cm R i) from Int32.add_zero _]
      exact ih _ _ _
theorem light_sp (hn : n ≤ 8) (hpg : ∀ i, i < n → pg (pw i) (gl i)) (hT : Tr n pl th sc L) (ht : ok (topOf tall) 1031) (h u : UInt64) (c9 : Int32) :
    ∃ h' u' c', f_X8_light p (ii n) th sc tall h u c9 pl hf pw gl = some (ii (cm (fan pl hf (bs pw gl 1) sc (wo p L) th (topOf tall)) 21), h', u', c') := light_lp hn hpg hT ht 21 0 h u c9 (by omega) 1000 (by omega)
def fl (k : Nat) : Int32 := if k = 0 then 0 else 1
theorem fl_0 (k : Nat) : fl k = 0 ↔ k = 0 := by
  unfold fl
  by_cases h : k = 0
  · rw [if_pos h]; exact ⟨fun _ => h, fun _ => rfl⟩
  · rw [if_neg h]; exact ⟨fun h9 => absurd h9 (by decide), fun h9 => absurd h9 h⟩
theorem blur_lp (hn : n ≤ 8) (hpg : ∀ i, i < n → pg (pw i) (gl i)) (hc : co c) (hT : Tr n pl th sc L) (ht : ok (topOf tall) 1031) :
    ∀ (j i : Nat) (h u : UInt64) (c9 : Int32), 21 = i + j → ∀ fuel, j < fuel → ∃ h' u' c', lp (f_X8_blurNow_b1 c (ii n) th sc tall pl hf pw gl) fuel (fk i, fl (cm (fan pl hf (bs pw gl c) sc L th (topOf tall)) i), hi_ (fan pl hf (bs pw gl c) sc L th (topOf tall)) FP.dconst0 i, lo_ (fan pl hf (bs pw gl c) sc L th (topOf tall)) FP.dconst0 i, h, u, c9) = some (blS (fan pl hf (bs pw gl c) sc L th (topOf tall)), h', u', c') := by
  have hok := wo_fan_ok (p := (-1 : Int32)) (hf := hf) hn hpg hc hT ht
  have hgo := fun i (hi : i < 21) => go_sp (p := (-1 : Int32)) (hf := hf) hn hpg hc hT ht (slp_ok hi)
  have hwo : wo (-1 : Int32) L = L := filter_no hn hT
  have hdef : ∀ i, rn pl hf (bs pw gl c) sc (L.filter (fun d => decide (ii d ≠ (-1 : Int32)))) 0 th (topOf tall) (slp i) = fan pl hf (bs pw gl c) sc (wo (-1 : Int32) L) th (topOf tall) i := fun _ => rfl
  simp only [hdef] at hgo
  rw [hwo] at hok hgo
  generalize fan pl hf (bs pw gl c) sc L th (topOf tall) = R at hgo hok ⊢
  intro j
  induction j with
  | zero =>
    intro i h u c9 hi fuel hf9
    obtain ⟨f, rfl⟩ := Nat.exists_eq_succ_of_ne_zero (show fuel ≠ 0 by omega)
    rw [lp_st]
    generalize lp (f_X8_blurNow_b1 c (ii n) th sc tall pl hf pw gl) f = K
    have hi : i = 21 := by omega
    subst hi
    refine ⟨h, u, c9, ?_⟩
    unfold f_X8_blurNow_b1 blS
    rw [if_pos ((fk_end (by omega)).mpr (by omega))]
    by_cases hz : cm R 21 = 0
    · rw [if_pos ((fl_0 _).mpr hz), if_pos hz]
    · rw [if_neg (fun h => hz ((fl_0 _).mp h)), if_neg hz]
      have hs := (spS_ok hok hz).1
      show gd (n64 (spS R)) (bd (f_X8_plain (spS R)) _) = _
      rw [gd_t (mg_n hs.1 (by decide)), bd_s (plain8 (mg_fin hs.1 (by decide))), pl_nz hs.2]
  | succ j ih =>
    intro i h u c9 hi fuel hf9
    obtain ⟨f, rfl⟩ := Nat.exists_eq_succ_of_ne_zero (show fuel ≠ 0 by omega)
    have ih := fun h u c => ih (i + 1) h u c (by omega) f (by omega)
    rw [lp_st]
    generalize lp (f_X8_blurNow_b1 c (ii n) th sc tall pl hf pw gl) f = K at ih ⊢
    unfold f_X8_blurNow_b1
    rw [if_neg (fun h => absurd ((fk_end (by omega)).mp h) (by omega))]
    have hn1 : n64 (slp i) = true := mg_n (slp_ok (show i < 21 by omega)).1 (by decide)
    simp only [show FP.ddiv (FP.i2d (fk i)) 4632233691727265792 = slp i from rfl]
    rw [gd_t (mg_n ht.1 (by decide)), gd_t hn1, bd_s (hgo i (by omega)), fk_s (by omega)]
    by_cases hu : un (R i) = true
    · rw [if_pos ((cn_un hok (by omega)).mpr hu)]
      have e1 : cm R (i + 1) = cm R i + 1 := by show cm R i + _ = _; rw [if_pos hu]
      have e2 : lo_ R FP.dconst0 (i + 1) = if cm R i = 0 then (R i).1 else if ky (R i).1 < ky (lo_ R FP.dconst0 i) then (R i).1 else lo_ R FP.dconst0 i := by show ite _ _ _ = _; rw [if_pos hu]
      have e3 : hi_ R FP.dconst0 (i + 1) = if cm R i = 0 then (R i).1 else if ky (hi_ R FP.dconst0 i) < ky (R i).1 then (R i).1 else hi_ R FP.dconst0 i := by show ite _ _ _ = _; rw [if_pos hu]
      rw [e1, e2, e3, show fl (cm R i + 1) = 1 from rfl] at ih
      have hr := (hok i (by omega)).1
      by_cases hz : cm R i = 0
      · rw [if_pos ((fl_0 _).mpr hz), if_pos ((fl_0 _).mpr hz)]
        rw [if_pos hz, if_pos hz] at ih
        exact ih _ _ _
      · have hl := lo_ok hok FP.dconst0 i (by omega) hz
        have hh := hi_ok hok FP.dconst0 i (by omega) hz
        have g1 := mg_n hl.1 (by decide)
        have g2 := mg_n hh.1 (by decide)
        have g3 := mg_n hr.1 (by decide)
        rw [if_neg (fun h => hz ((fl_0 _).mp h)), if_neg (fun h => hz ((fl_0 _).mp h))]
        simp only [gd_t g1, gd_t g2, gd_t g3]
        rw [dmax_k (mg_fin hh.1 (by decide)) (mg_fin hr.1 (by decide)) hh.2 hr.2, dmin_k (mg_fin hl.1 (by decide)) (mg_fin hr.1 (by decide)) hl.2 hr.2]
        rw [if_neg hz, if_neg hz] at ih
        exact ih _ _ _
    · rw [if_neg (fun h => hu ((cn_un hok (by omega)).mp h))]
      have e1 : cm R (i + 1) = cm R i := by show cm R i + _ = _; rw [if_neg hu]; exact Nat.add_zero _
      have e2 : lo_ R FP.dconst0 (i + 1) = lo_ R FP.dconst0 i := by show ite _ _ _ = _; rw [if_neg hu]
      have e3 : hi_ R FP.dconst0 (i + 1) = hi_ R FP.dconst0 i := by show ite _ _ _ = _; rw [if_neg hu]
      rw [e1, e2, e3] at ih
      exact ih _ _ _
theorem blur_sp (hn : n ≤ 8) (hpg : ∀ i, i < n → pg (pw i) (gl i)) (hc : co c) (hT : Tr n pl th sc L) (ht : ok (topOf tall) 1031) (h u : UInt64) (c9 : Int32) :
    ∃ h' u' c', f_X8_blurNow c (ii n) th sc tall h u c9 pl hf pw gl = some (blS (fan pl hf (bs pw gl c) sc L th (topOf tall)), h', u', c') := blur_lp hn hpg hc hT ht 21 0 h u c9 (by omega) 1000 (by omega)
/-! what comes through a piece -/
def past (pl : Nat → Int32) (d0 : Nat) (r : Ray1) : Bool := match r.2.2 with
  | none => true
  | some x => decide ((pl d0).toInt < (pl x.2).toInt)
def thr (pl : Nat → Int32) (d0 : Nat) (R : Nat → Ray1) : Nat → Nat
  | 0 => 0
  | i + 1 => thr pl d0 R i + if past pl d0 (R i) = true then 1 else 0
theorem thr_le (pl : Nat → Int32) (d0 : Nat) (R : Nat → Ray1) : ∀ i, thr pl d0 R i ≤ i
  | 0 => Nat.le_refl _
  | i + 1 => by
    have := thr_le pl d0 R i
    unfold thr
    split <;> omega
theorem thr_lp {d0 : Nat} (hd0 : d0 < 8) (hn : n ≤ 8) (hpg : ∀ i, i < n → pg (pw i) (gl i)) (hT : Tr n pl th sc L) (ht : ok (topOf tall) 1031) :
    ∀ (j i : Nat) (h u : UInt64) (c9 : Int32), 21 = i + j → ∀ fuel, j < fuel → ∃ h' u' c', lp (f_X8_throughNow_b1 (ii d0) (ii n) th sc tall pl hf pw gl) fuel (fk i, ii (thr pl d0 (fan pl hf (bs pw gl 1) sc L th (topOf tall)) i), h, u, c9) = some (ii (thr pl d0 (fan pl hf (bs pw gl 1) sc L th (topOf tall)) 21), h', u', c') := by
  have hco : co 1 := by unfold co; decide
  have hok := wo_fan_ok (p := (-1 : Int32)) (hf := hf) hn hpg hco hT ht
  have hgo := fun i (hi : i < 21) => go_sp (p := (-1 : Int32)) (hf := hf) hn hpg hco hT ht (slp_ok hi)
  have hwo : wo (-1 : Int32) L = L := filter_no hn hT
  have hdef : ∀ i, rn pl hf (bs pw gl 1) sc (L.filter (fun d => decide (ii d ≠ (-1 : Int32)))) 0 th (topOf tall) (slp i) = fan pl hf (bs pw gl 1) sc (wo (-1 : Int32) L) th (topOf tall) i := fun _ => rfl
  simp only [hdef] at hgo
  rw [hwo] at hok hgo
  generalize fan pl hf (bs pw gl 1) sc L th (topOf tall) = R at hgo hok ⊢
  have hv0 : vin (ii d0) 8 = true := vin_ii hd0 (by omega)
  intro j
  induction j with
  | zero =>
    intro i h u c9 hi fuel hf9
    obtain ⟨f, rfl⟩ := Nat.exists_eq_succ_of_ne_zero (show fuel ≠ 0 by omega)
    rw [lp_st]
    generalize lp (f_X8_throughNow_b1 (ii d0) (ii n) th sc tall pl hf pw gl) f = K
    have hi : i = 21 := by omega
    subst hi
    refine ⟨h, u, c9, ?_⟩
    unfold f_X8_throughNow_b1
    exact if_pos ((fk_end (by omega)).mpr (by omega))
  | succ j ih =>
    intro i h u c9 hi fuel hf9
    obtain ⟨f, rfl⟩ := Nat.exists_eq_succ_of_ne_zero (show fuel ≠ 0 by omega)
    have ih := fun h u c => ih (i + 1) h u c (by omega) f (by omega)
    rw [lp_st]
    generalize lp (f_X8_throughNow_b1 (ii d0) (ii n) th sc tall pl hf pw gl) f = K at ih ⊢
    unfold f_X8_throughNow_b1
    rw [if_neg (fun h => absurd ((fk_end (by omega)).mp h) (by omega))]
    have hn1 : n64 (slp i) = true := mg_n (slp_ok (show i < 21 by omega)).1 (by decide)
    simp only [show FP.ddiv (FP.i2d (fk i)) 4632233691727265792 = slp i from rfl]
    rw [gd_t (mg_n ht.1 (by decide)), gd_t hn1, bd_s (hgo i (by omega)), fk_s (by omega)]
    have up : past pl d0 (R i) = true → thr pl d0 R (i + 1) = thr pl d0 R i + 1 := fun hu => by show thr pl d0 R i + _ = _; rw [if_pos hu]
    have st : ¬ past pl d0 (R i) = true → thr pl d0 R (i + 1) = thr pl d0 R i := fun hu => by show thr pl d0 R i + _ = _; rw [if_neg hu]; exact Nat.add_zero _
    simp only []
    cases hc : (R i).2.2 with
    | none =>
      have hu : past pl d0 (R i) = true := by unfold past; rw [hc]
      rw [if_pos (show cn none = (-1 : Int32) from rfl), ii_s]
      rw [up hu] at ih
      exact ih _ _ _
    | some x =>
      have hx := ((hok i (by omega)).2 x hc).2
      have hpx : past pl d0 (R i) = decide ((pl d0).toInt < (pl x.2).toInt) := by unfold past; rw [hc]
      have hvx : vin (ii x.2) 8 = true := vin_ii hx (by omega)
      rw [show cn (some x) = ii x.2 from rfl, if_neg (ii_ne (by omega)), gd_t hvx, gd_t hv0, ii_cl (show x.2 < 100000 by omega), ii_cl (show d0 < 100000 by omega)]
      by_cases c1 : pl x.2 ≤ pl d0
      · rw [if_pos c1]
        rw [Int32.le_iff_toInt_le] at c1
        rw [st (by rw [hpx, decide_eq_true_eq]; omega)] at ih
        rw [show ii (thr pl d0 R i) + (0 : Int32) = ii (thr pl d0 R i) from Int32.add_zero _]
        exact ih _ _ _
      · rw [if_neg c1, ii_s]
        rw [Int32.le_iff_toInt_le] at c1
        rw [up (by rw [hpx, decide_eq_true_eq]; omega)] at ih
        exact ih _ _ _
end Model
/-! .. and as the class counts it -/
def below (r : Ray1) (m : Nat) : Bool := match r.2.2 with
  | none => false
  | some x => decide (x.1 < m)
def cl (R : Nat → Ray1) (m : Nat) : Nat → Nat
  | 0 => 0
  | i + 1 => cl R m i + if below (R i) m = true then 1 else 0
theorem cl_0 (R : Nat → Ray1) : ∀ i, cl R 0 i = 0
  | 0 => rfl
  | i + 1 => by
    have ih := cl_0 R i
    unfold cl
    rw [ih, if_neg]
    unfold below
    cases (R i).2.2 with
    | none => exact Bool.false_ne_true
    | some x => simp
theorem cl_s (R : Nat → Ray1) (m : Nat) : ∀ i, cl R (m + 1) i = cl R m i + ct R m i
  | 0 => rfl
  | i + 1 => by
    have ih := cl_s R m i
    unfold cl ct
    rw [ih]
    unfold below cutAt
    cases (R i).2.2 with
    | none => simp
    | some x =>
      simp only [decide_eq_true_eq]
      rcases Nat.lt_trichotomy x.1 m with h | h | h
      · rw [if_pos (show x.1 < m + 1 by omega), if_pos h, if_neg (show ¬ x.1 = m by omega)]; omega
      · rw [if_pos (show x.1 < m + 1 by omega), if_neg (show ¬ x.1 < m by omega), if_pos h]; omega
      · rw [if_neg (show ¬ x.1 < m + 1 by omega), if_neg (show ¬ x.1 < m by omega), if_neg (show ¬ x.1 = m by omega)]; omega
theorem cl_le (R : Nat → Ray1) (m : Nat) : ∀ i, cl R m i ≤ i
  | 0 => Nat.le_refl _
  | i + 1 => by
    have := cl_le R m i
    unfold cl
    split <;> omega
theorem passed_lp {R : Nat → Ray1} {pos : Nat} {C : Nat → Int32} (hp : pos < 8) (hC : ∀ p, p < 8 → C p = ii (ct R p 21)) : ∀ (j i : Nat), pos + 1 = i + j → ∀ fuel, j < fuel →
    lp (f_X1_passed_b1 (ii pos) C) fuel (ii i, ii (21 - cl R i 21)) = some (ii (21 - cl R (pos + 1) 21)) := by
  intro j
  induction j with
  | zero =>
    intro i hi fuel hf9
    obtain ⟨f, rfl⟩ := Nat.exists_eq_succ_of_ne_zero (show fuel ≠ 0 by omega)
    rw [lp_st]
    generalize lp (f_X1_passed_b1 (ii pos) C) f = K
    unfold f_X1_passed_b1
    rw [if_pos (show ii pos < ii i from (ii_lt (by omega) (by omega)).mpr (by omega)), show pos + 1 = i by omega]
  | succ j ih =>
    intro i hi fuel hf9
    obtain ⟨f, rfl⟩ := Nat.exists_eq_succ_of_ne_zero (show fuel ≠ 0 by omega)
    have ih := ih (i + 1) (by omega) f (by omega)
    rw [lp_st]
    generalize lp (f_X1_passed_b1 (ii pos) C) f = K at ih ⊢
    unfold f_X1_passed_b1
    have hv : vin (ii i) 8 = true := vin_ii (by omega) (by omega)
    rw [if_neg (show ¬ ii pos < ii i from fun h => absurd ((ii_lt (by omega) (by omega)).mp h) (by omega)), if_neg (show ¬ (8 : Int32) ≤ ii i from fun h => absurd ((ii_le (a := 8) (by omega) (by omega)).mp h) (by omega)), gd_t hv]
    simp only [ii_cl (show i < 100000 by omega), ii_s]
    have h1 := cl_s R i 21
    have h2 := cl_le R (i + 1) 21
    rw [hC i (by omega), show ii (21 - cl R i 21) - ii (ct R i 21) = ii (21 - cl R (i + 1) 21) by
      rw [show 21 - cl R (i + 1) 21 = 21 - cl R i 21 - ct R i 21 by omega]
      exact (Int32.ofNat_sub _ _ (by omega)).symm]
    exact ih
theorem passed_sp {R : Nat → Ray1} {pos : Nat} {C : Nat → Int32} (hp : pos < 8) (hC : ∀ p, p < 8 → C p = ii (ct R p 21)) : f_X1_passed (ii pos) C = some (ii (21 - cl R (pos + 1) 21)) := by
  have h := passed_lp hp hC (pos + 1) 0 (by omega) 1000 (by omega)
  rw [cl_0] at h
  exact h
theorem thr_cl {n : Nat} {q : Nat → Int32} {lo hi : Int32} {L : List Nat} {hf : Nat → Int32} {s : Nat → UInt64} {sc th : Int32} {top : UInt64} (hT : Tr n q lo hi L) {pos d0 : Nat} (hp : L[pos]? = some d0) : ∀ i, thr q d0 (fan q hf s sc L th top) i + cl (fan q hf s sc L th top) (pos + 1) i = i
  | 0 => rfl
  | i + 1 => by
    have ih := thr_cl (hf := hf) (s := s) (sc := sc) (th := th) (top := top) hT hp i
    unfold thr cl
    have key : (past q d0 (fan q hf s sc L th top i) = true) ↔ ¬ (below (fan q hf s sc L th top i) (pos + 1) = true) := by
      unfold past below
      cases hc : (fan q hf s sc L th top i).2.2 with
      | none => exact ⟨fun _ => Bool.false_ne_true, fun _ => rfl⟩
      | some x =>
        have hx := (rn_cut _ _ _ _ _ _ hc).2
        rw [Nat.sub_zero] at hx
        simp only [decide_eq_true_eq]
        have hpw := List.pairwise_iff_getElem.mp hT.1
        obtain ⟨l1, e1⟩ := List.getElem?_eq_some_iff.mp hp
        obtain ⟨l2, e2⟩ := List.getElem?_eq_some_iff.mp hx
        rcases Nat.lt_trichotomy pos x.1 with h | h | h
        · have := hpw pos x.1 l1 l2 h
          rw [e1, e2] at this
          omega
        · subst h
          rw [e1] at e2
          subst e2
          omega
        · have := hpw x.1 pos l2 l1 h
          rw [e1, e2] at this
          omega
    by_cases h : below (fan q hf s sc L th top i) (pos + 1) = true
    · rw [if_neg (fun h9 => key.mp h9 h), if_pos h]; omega
    · rw [if_pos (key.mpr h), if_neg h]; omega
end PureCount
