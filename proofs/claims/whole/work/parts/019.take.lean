/-! PURE TAKE. -/
section PureTake
variable {n : Nat} {pl hf pw gl : Nat → Int32} {th sc ta : Int32}
def dl (A : Nat → Int32) (p k : Nat) : Nat → Int32 := fun j => if p ≤ j ∧ j < k then A (j + 1) else A j
theorem dl_self (A : Nat → Int32) (p : Nat) : dl A p p = A := by
  funext j
  unfold dl
  exact if_neg (by omega)
theorem dl_step {A : Nat → Int32} {p k : Nat} (h : p ≤ k) : upd (dl A p k) k (dl A p k (k + 1)) = dl A p (k + 1) := by
  funext j
  unfold upd dl
  rw [if_neg (show ¬ (p ≤ k + 1 ∧ k + 1 < k) by omega)]
  by_cases e : j = k
  · subst e
    rw [if_pos rfl, if_pos (by omega)]
  · rw [if_neg e]
    by_cases h2 : p ≤ j ∧ j < k
    · rw [if_pos h2, if_pos (by omega)]
    · rw [if_neg h2, if_neg (by omega)]
theorem take6_lp (hn : n ≤ 8) {p : Nat} : ∀ (j k : Nat), n = k + 1 + j → p ≤ k → ∀ fuel, j < fuel →
    lp (f_X6_take_b1 (ii p) (ii n) pl) fuel (ii (k + 1), dl pl p k, dl hf p k, dl pw p k, dl gl p k) = some (.inr (pl p, ii n - 1, dl pl p (n - 1), dl hf p (n - 1), dl pw p (n - 1), dl gl p (n - 1))) := by
  intro j
  induction j with
  | zero =>
    intro k hk hp fuel hf9
    obtain ⟨f, rfl⟩ := Nat.exists_eq_succ_of_ne_zero (show fuel ≠ 0 by omega)
    rw [lp_st]
    generalize lp (f_X6_take_b1 (ii p) (ii n) pl) f = K
    unfold f_X6_take_b1
    rw [if_pos (show ii n ≤ ii (k + 1) from (ii_le (by omega) (by omega)).mpr (by omega)), ii_cl (show p < 100000 by omega), show n - 1 = k by omega]
  | succ j ih =>
    intro k hk hp fuel hf9
    obtain ⟨f, rfl⟩ := Nat.exists_eq_succ_of_ne_zero (show fuel ≠ 0 by omega)
    have ih := ih (k + 1) (by omega) (by omega) f (by omega)
    rw [lp_st]
    generalize lp (f_X6_take_b1 (ii p) (ii n) pl) f = K at ih ⊢
    unfold f_X6_take_b1
    have hv : vin (ii (k + 1)) 8 = true := vin_ii (by omega) (by omega)
    have hv2 : vin (ii k) 8 = true := vin_ii (by omega) (by omega)
    rw [if_neg (show ¬ ii n ≤ ii (k + 1) from fun h => absurd ((ii_le (by omega) (by omega)).mp h) (by omega))]
    simp only [show ii (k + 1) - 1 = ii k from ii_p (by omega), gd_t hv, gd_t hv2, ii_cl (show k < 100000 by omega), ii_cl (show k + 1 < 100000 by omega), ii_s, dl_step hp]
    exact ih
theorem take8_lp (hn : n ≤ 8) {p : Nat} (h1 : 1 ≤ n) : ∀ (j k : Nat), n = k + 1 + j → p ≤ k → ∀ fuel, j < fuel →
    lp (f_X8_take_b1 (ii p) (ii n) pl) fuel (ii k, dl pl p k, dl hf p k, dl pw p k, dl gl p k) = some (pl p, 0, ii n - 1, dl pl p (n - 1), dl hf p (n - 1), dl pw p (n - 1), dl gl p (n - 1)) := by
  intro j
  induction j with
  | zero =>
    intro k hk hp fuel hf9
    obtain ⟨f, rfl⟩ := Nat.exists_eq_succ_of_ne_zero (show fuel ≠ 0 by omega)
    rw [lp_st]
    generalize lp (f_X8_take_b1 (ii p) (ii n) pl) f = K
    unfold f_X8_take_b1
    rw [ii_p h1, if_pos (show ii (n - 1) ≤ ii k from (ii_le (by omega) (by omega)).mpr (by omega)), ii_cl (show p < 100000 by omega), show n - 1 = k by omega]
  | succ j ih =>
    intro k hk hp fuel hf9
    obtain ⟨f, rfl⟩ := Nat.exists_eq_succ_of_ne_zero (show fuel ≠ 0 by omega)
    have ih := ih (k + 1) (by omega) (by omega) f (by omega)
    rw [lp_st]
    generalize lp (f_X8_take_b1 (ii p) (ii n) pl) f = K at ih ⊢
    unfold f_X8_take_b1
    have hv : vin (ii (k + 1)) 8 = true := vin_ii (by omega) (by omega)
    have hv2 : vin (ii k) 8 = true := vin_ii (by omega) (by omega)
    rw [ii_p h1] at ih ⊢
    rw [if_neg (show ¬ ii (n - 1) ≤ ii k from fun h => absurd ((ii_le (by omega) (by omega)).mp h) (by omega))]
    simp only [gd_t hv2, ii_s, gd_t hv, ii_cl (show k < 100000 by omega), ii_cl (show k + 1 < 100000 by omega), dl_step hp]
    exact ih
theorem Gd.take (hG : Gd n pl hf pw gl th sc ta) {p : Nat} (hp : p < n) : Gd (n - 1) (dl pl p (n - 1)) (dl hf p (n - 1)) (dl pw p (n - 1)) (dl gl p (n - 1)) th sc ta := by
  obtain ⟨a1, a2, a3, a4, a5, a6⟩ := hG
  have key : ∀ (A : Nat → Int32) j, j < n - 1 → dl A p (n - 1) j = A (if p ≤ j then j + 1 else j) := by
    intro A j hj
    unfold dl
    by_cases h : p ≤ j
    · rw [if_pos (by omega), if_pos h]
    · rw [if_neg (by omega), if_neg h]
  have lt : ∀ j, j < n - 1 → (if p ≤ j then j + 1 else j) < n := by
    intro j hj
    split <;> omega
  refine ⟨by omega, fun i hi => ?_, fun i j hi hj hij => ?_, fun i hi => ?_, fun i hi => ?_, a6⟩
  · rw [key _ i hi]; exact a2 _ (lt i hi)
  · rw [key _ i hi, key _ j hj]
    refine a3 _ _ (lt i hi) (lt j hj) ?_
    split <;> split <;> omega
  · rw [key _ i hi]; exact a4 _ (lt i hi)
  · rw [key _ i hi, key _ i hi]; exact a5 _ (lt i hi)
theorem LM_take (hG : Gd n pl hf pw gl th sc ta) (a : Int32) (o : Int64) : ∃ k n' pl' hf' pw' gl' o' v, f_L_take a (ii n) pl hf pw gl o = some (k, ii n', pl', hf', pw', gl', o') ∧ f_X8_take a (ii n) pl hf pw gl = some (v, k, ii n', pl', hf', pw', gl') ∧ Gd n' pl' hf' pw' gl' th sc ta ∧ (k = 0 → o' = v.toInt64) := by
  have hn := hG.1
  unfold f_L_take f_X6_take f_X8_take f_X8_refuse
  by_cases h0 : isP n a
  · rw [(needPiece6 hn a).1 h0, (isPiece8 hn a).1 h0]
    obtain ⟨x, hx, rfl⟩ := isP_ii h0
    simp only [bx_i, bd_i]
    have hv : vin (ii x) 8 = true := vin_ii (by omega) (by omega)
    rw [if_neg (show ¬ (1 : Int32) = 0 by decide), gd_t hv, gd_t hv, ii_s]
    have h6 := take6_lp (pl := pl) (hf := hf) (pw := pw) (gl := gl) hn (p := x) (n - x - 1) x (by omega) (Nat.le_refl _) 1000 (by omega)
    have h8 := take8_lp (pl := pl) (hf := hf) (pw := pw) (gl := gl) hn (p := x) (by omega) (n - x - 1) x (by omega) (Nat.le_refl _) 1000 (by omega)
    rw [dl_self, dl_self, dl_self, dl_self, ii_p (show 1 ≤ n by omega)] at h6 h8
    rw [h6, h8]
    exact ⟨0, n - 1, _, _, _, _, _, pl x, rfl, rfl, hG.take hx, fun _ => rfl⟩
  · rw [(needPiece6 hn a).2 h0, (isPiece8 hn a).2 h0]
    exact ⟨1, n, pl, hf, pw, gl, o, 0, rfl, rfl, hG, fun h => absurd h (by decide)⟩
end PureTake
