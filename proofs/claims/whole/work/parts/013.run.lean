/-! PURE RUNS: a ray along the train, told once; class and reference go so. -/
section PureRun
theorem step_h {h u : UInt64} {K : Nat} (hh : ok h K) (hu : ok u K) (hK : K ≤ 1500) (x : Int32) : n64 (FP.dmul u (FP.i2d x)) = true ∧ n64 (FP.dadd h (FP.dmul u (FP.i2d x))) = true ∧ ok (FP.dadd h (FP.dmul u (FP.i2d x))) (K + 36) := by
  have h1 : mg (FP.dmul u (FP.i2d x)) (K + 34) := mg_mono (mg_mul hu.1 (mg_i2d x) (by omega) (by omega)) (by omega)
  have h2 := mg_add (mg_mono hh.1 (show K ≤ K + 34 by omega)) h1 (by omega)
  exact ⟨mg_n h1 (by omega), mg_n h2 (by omega), h2, nz_add (mg_fin hh.1 (by omega)) (mg_fin h1 (by omega)) hh.2⟩
theorem step_u {h u s : UInt64} {K : Nat} (hh : ok h (K + 36)) (hu : ok u K) (hs : mg s 1024) (hK : K ≤ 1500) : n64 (FP.dmul h s) = true ∧ n64 (FP.dsub u (FP.dmul h s)) = true ∧ ok (FP.dsub u (FP.dmul h s)) (K + 40) := by
  have h1 : mg (FP.dmul h s) (K + 38) := mg_mono (mg_mul hh.1 hs (by omega) (by omega)) (by omega)
  have h2 := mg_sub (mg_mono hu.1 (show K ≤ K + 38 by omega)) h1 (by omega)
  exact ⟨mg_n h1 (by omega), mg_n h2 (by omega), h2, nz_sub (mg_fin hu.1 (by omega)) (mg_fin h1 (by omega)) hu.2⟩
/-- a ray along D: height, slope, where it is cut (which of the train, its number) -/
def rn (q hf : Nat → Int32) (s : Nat → UInt64) (sc : Int32) : List Nat → Nat → Int32 → UInt64 → UInt64 → UInt64 × UInt64 × Option (Nat × Nat)
  | [], _, w, h, u => (FP.dadd h (FP.dmul u (FP.i2d (sc - w))), u, none)
  | d :: D, k, w, h, u =>
    if ky (FP.i2d (hf d)) < ky (dabs (FP.dadd h (FP.dmul u (FP.i2d (q d - w))))) then (FP.dadd h (FP.dmul u (FP.i2d (q d - w))), u, some (k, d))
    else rn q hf s sc D (k + 1) (q d) (FP.dadd h (FP.dmul u (FP.i2d (q d - w)))) (FP.dsub u (FP.dmul (FP.dadd h (FP.dmul u (FP.i2d (q d - w)))) (s d)))
def cp : Option (Nat × Nat) → Int32
  | none => -1
  | some x => ii x.1
def cn : Option (Nat × Nat) → Int32
  | none => -1
  | some x => ii x.2
theorem rn_ok {q hf : Nat → Int32} {s : Nat → UInt64} {sc : Int32} : ∀ (D : List Nat) (k : Nat) (w : Int32) (h u : UInt64), (∀ d ∈ D, mg (s d) 1024) → k + D.length ≤ 8 → ok h (1031 + 40 * k) → ok u (1031 + 40 * k) → ok (rn q hf s sc D k w h u).1 1400 ∧ ok (rn q hf s sc D k w h u).2.1 1400 := by
  intro D
  induction D with
  | nil =>
    intro k w h u _ hk hh hu
    simp only [List.length_nil] at hk
    have := (step_h hh hu (by omega) (sc - w)).2.2
    exact ⟨ok_mono this (by omega), ok_mono hu (by omega)⟩
  | cons d D ih =>
    intro k w h u hs hk hh hu
    simp only [List.length_cons] at hk
    have h1 := (step_h hh hu (by omega) (q d - w)).2.2
    have h2 := (step_u h1 hu (hs d List.mem_cons_self) (by omega)).2.2
    unfold rn
    split
    · exact ⟨ok_mono h1 (by omega), ok_mono hu (by omega)⟩
    · exact ih (k + 1) _ _ _ (fun e he => hs e (List.mem_cons_of_mem _ he)) (by omega) (ok_mono h1 (by omega)) (ok_mono h2 (by omega))
/-- where it is cut is of the train -/
theorem rn_cut {q hf : Nat → Int32} {s : Nat → UInt64} {sc : Int32} : ∀ (D : List Nat) (k : Nat) (w : Int32) (h u : UInt64) (x : Nat × Nat), (rn q hf s sc D k w h u).2.2 = some x → k ≤ x.1 ∧ D[x.1 - k]? = some x.2 := by
  intro D
  induction D with
  | nil => intro k w h u x hx; cases hx
  | cons d D ih =>
    intro k w h u x hx
    unfold rn at hx
    split at hx
    · cases hx
      exact ⟨Nat.le_refl _, by rw [Nat.sub_self]; rfl⟩
    · obtain ⟨h1, h2⟩ := ih _ _ _ _ _ hx
      exact ⟨by omega, by rw [show x.1 - k = (x.1 - (k + 1)) + 1 by omega]; exact h2⟩
theorem run_lp {q hf : Nat → Int32} {s : Nat → UInt64} {N P H : Nat → Int32} {B : Nat → UInt64} {sc : Int32} : ∀ (D : List Nat) (k : Nat) (w : Int32) (h u : UInt64), Rp q hf s N P H B k D → (∀ d ∈ D, mg (s d) 1024) → k + D.length ≤ 8 → ok h (1031 + 40 * k) → ok u (1031 + 40 * k) → ∀ fuel, D.length < fuel →
    lp (f_X3_run_b1 (ii (k + D.length)) sc P H B) fuel (ii k, w, h, u) = some ((rn q hf s sc D k w h u).1, (rn q hf s sc D k w h u).2.1, cp (rn q hf s sc D k w h u).2.2) := by
  intro D
  induction D with
  | nil =>
    intro k w h u _ _ hk hh hu fuel hf9
    obtain ⟨f, rfl⟩ := Nat.exists_eq_succ_of_ne_zero (show fuel ≠ 0 by omega)
    rw [lp_st]
    generalize lp (f_X3_run_b1 (ii (k + ([] : List Nat).length)) sc P H B) f = K
    simp only [List.length_nil] at hk
    obtain ⟨h1, h2, h3⟩ := step_h hh hu (by omega) (sc - w)
    unfold f_X3_run_b1
    simp only [List.length_nil, Nat.add_zero]
    rw [if_pos (show ii k ≤ ii k from (ii_le (by omega) (by omega)).mpr (Nat.le_refl _)), gd_t h1, gd_t h2]
    rfl
  | cons d D ih =>
    intro k w h u hR hs hk hh hu fuel hf9
    obtain ⟨f, rfl⟩ := Nat.exists_eq_succ_of_ne_zero (show fuel ≠ 0 by omega)
    simp only [List.length_cons] at hk hf9
    obtain ⟨⟨r1, r2, r3, r4⟩, hR⟩ := hR
    have hv : vin (ii k) 8 = true := vin_ii (by omega) (by omega)
    obtain ⟨h1, h2, h3⟩ := step_h hh hu (by omega) (q d - w)
    obtain ⟨h4, h5, h6⟩ := step_u h3 hu (hs d List.mem_cons_self) (by omega)
    have ih := ih (k + 1) (q d) _ _ hR (fun e he => hs e (List.mem_cons_of_mem _ he)) (by omega) (ok_mono h3 (by omega)) (ok_mono h6 (by omega)) f (by omega)
    rw [show k + 1 + D.length = k + (d :: D).length by rw [List.length_cons]; omega] at ih
    rw [lp_st]
    generalize lp (f_X3_run_b1 (ii (k + (d :: D).length)) sc P H B) f = K at ih ⊢
    unfold f_X3_run_b1
    simp only [gd_t hv, ii_cl (show k < 100000 by omega), r2, r3, r4, List.length_cons]
    rw [if_neg (show ¬ ii (k + (D.length + 1)) ≤ ii k from fun h => absurd ((ii_le (by omega) (by omega)).mp h) (by omega)), gd_t h1, gd_t h2, bd_s (uns (mg_fin h3.1 (by omega)) h3.2)]
    rw [ky_cmp (abs_fin (mg_fin h3.1 (by omega))) (mg_fin (mg_i2d _) (by decide))]
    unfold rn
    by_cases c : ky (FP.i2d (hf d)) < ky (dabs (FP.dadd h (FP.dmul u (FP.i2d (q d - w)))))
    · rw [if_neg (fun h => (cv_le _ _ _).mp h c), if_pos c]
      rfl
    · rw [if_pos ((cv_le _ _ _).mpr c), if_neg c, gd_t h4, gd_t h5, ii_s]
      exact ih
theorem run_sp {q hf : Nat → Int32} {s : Nat → UInt64} {N P H : Nat → Int32} {B : Nat → UInt64} {th sc : Int32} {L : List Nat} {h u : UInt64} (hR : RI q hf s N P H B L) (hs : ∀ d ∈ L, mg (s d) 1024) (hk : L.length ≤ 8) (hh : ok h 1031) (hu : ok u 1031) :
    f_X3_run h u (ii L.length) th sc P H B = some ((rn q hf s sc L 0 th h u).1, (rn q hf s sc L 0 th h u).2.1, cp (rn q hf s sc L 0 th h u).2.2) := by
  have := run_lp (sc := sc) L 0 th h u hR.rp hs (by omega) hh hu 1000 (by omega)
  rw [Nat.zero_add] at this
  exact this
section Go
variable {n : Nat} {c p th sc : Int32} {pl hf pw gl : Nat → Int32}
theorem go_lp (hn : n ≤ 8) (hpg : ∀ i, i < n → pg (pw i) (gl i)) (hc : co c) : ∀ (D : List Nat) (k : Nat) (v w : Int32) (h u : UInt64), Tr n pl v sc D → k + D.length ≤ 8 → ok h (1031 + 40 * k) → ok u (1031 + 40 * k) → ∀ fuel, D.length < fuel →
    lp (f_X8_go_b1 c p (ii n) sc pl hf pw gl) fuel (hd D, w, h, u) = some ((rn pl hf (bs pw gl c) sc (D.filter (fun d => decide (ii d ≠ p))) k w h u).1, (rn pl hf (bs pw gl c) sc (D.filter (fun d => decide (ii d ≠ p))) k w h u).2.1, cn (rn pl hf (bs pw gl c) sc (D.filter (fun d => decide (ii d ≠ p))) k w h u).2.2) := by
  intro D
  induction D with
  | nil =>
    intro k v w h u _ hk hh hu fuel hf9
    obtain ⟨f, rfl⟩ := Nat.exists_eq_succ_of_ne_zero (show fuel ≠ 0 by omega)
    rw [lp_st]
    generalize lp (f_X8_go_b1 c p (ii n) sc pl hf pw gl) f = K
    simp only [List.length_nil] at hk
    obtain ⟨h1, h2, h3⟩ := step_h hh hu (by omega) (sc - w)
    unfold f_X8_go_b1
    simp only [hd]
    rw [if_pos trivial, gd_t h1, gd_t h2]
    rfl
  | cons d D ih =>
    intro k v w h u hT hk hh hu fuel hf9
    obtain ⟨f, rfl⟩ := Nat.exists_eq_succ_of_ne_zero (show fuel ≠ 0 by omega)
    simp only [List.length_cons] at hk hf9
    have hdn := hT.lt
    have hv : vin (ii d) 8 = true := vin_ii (by omega) (by omega)
    have hnx := next_hd hn hT.tail
    have ih1 := fun k w h u hk hh hu => ih k (pl d) w h u hT.tail hk hh hu f (by omega)
    clear ih
    rw [lp_st]
    generalize lp (f_X8_go_b1 c p (ii n) sc pl hf pw gl) f = K at ih1 ⊢
    unfold f_X8_go_b1
    simp only [hd, gd_t hv, ii_cl (show d < 100000 by omega)]
    rw [if_neg (ii_ne (by omega))]
    by_cases e : ii d = p
    · rw [if_pos e, bd_s hnx, List.filter_cons_of_neg (by simpa using e)]
      exact ih1 k w h u (by omega) hh hu
    · rw [if_neg e, List.filter_cons_of_pos (by simpa using e)]
      obtain ⟨h1, h2, h3⟩ := step_h hh hu (by omega) (pl d - w)
      obtain ⟨h4, h5, h6⟩ := step_u h3 hu (bv_mg (hpg d hdn) hc) (by omega)
      have ih2 := ih1 (k + 1) (pl d) _ _ (by omega) (ok_mono h3 (by omega)) (ok_mono h6 (by omega))
      simp only [gd_t h1, gd_t h2]
      rw [ky_cmp (abs_fin (mg_fin h3.1 (by omega))) (mg_fin (mg_i2d _) (by decide))]
      unfold rn
      by_cases c9 : ky (FP.i2d (hf d)) < ky (dabs (FP.dadd h (FP.dmul u (FP.i2d (pl d - w)))))
      · rw [if_neg (fun h => (cv_le _ _ _).mp h c9), if_pos c9]
        rfl
      · rw [if_pos ((cv_le _ _ _).mpr c9), if_neg c9]
        by_cases e2 : pw d = 0
        · rw [if_pos e2, bd_s hnx]
          have e3 : bs pw gl c d = FP.dconst0 := by show bv _ _ _ = _; unfold bv; exact if_pos e2
          have e4 : FP.dsub u (FP.dmul (FP.dadd h (FP.dmul u (FP.i2d (pl d - w)))) (bs pw gl c d)) = u := by
            rw [e3]; exact sub_mul_zero (mg_fin hu.1 (by omega)) hu.2 (mg_fin h3.1 (by omega))
          rw [show FP.dsub u (FP.dmul (FP.dadd h (FP.dmul u (FP.i2d (pl d - w)))) (bv (pw d) (gl d) c)) = u from e4] at ih2
          rw [e4]
          exact ih2
        · rw [if_neg e2, bd_s (bend8 hv (by rw [ii_cl (show d < 100000 by omega)]; exact hpg d hdn) hc), ii_cl (show d < 100000 by omega), gd_t h4, gd_t h5, bd_s hnx]
          exact ih2
theorem go_sp (hn : n ≤ 8) (hpg : ∀ i, i < n → pg (pw i) (gl i)) (hc : co c) {L : List Nat} {h u : UInt64} (hT : Tr n pl th sc L) (hh : ok h 1031) (hu : ok u 1031) :
    f_X8_go h u c p (ii n) th sc pl hf pw gl = some ((rn pl hf (bs pw gl c) sc (L.filter (fun d => decide (ii d ≠ p))) 0 th h u).1, (rn pl hf (bs pw gl c) sc (L.filter (fun d => decide (ii d ≠ p))) 0 th h u).2.1, cn (rn pl hf (bs pw gl c) sc (L.filter (fun d => decide (ii d ≠ p))) 0 th h u).2.2) := by
  unfold f_X8_go
  rw [bd_s (next_hd hn hT)]
  exact go_lp hn hpg hc L 0 th th h u hT (by have := hT.2.2; omega) hh hu 1000 (by have := hT.2.2; omega)
theorem filter_no {n : Nat} {q : Nat → Int32} {lo hi : Int32} {L : List Nat} (hn : n ≤ 8) (hT : Tr n q lo hi L) : L.filter (fun d => decide (ii d ≠ (-1 : Int32))) = L := by
  rw [List.filter_eq_self]
  intro a ha
  have := ((hT.2.1 a).mp ha).1
  exact decide_eq_true (ii_ne (by omega))
end Go
end PureRun
