/-! PURE TABLE and OPENING. -/
section PureTable
def tb (q : Nat → Int32) (s : Nat → UInt64) : List Nat → Int32 → UInt64 → UInt64 → UInt64 → UInt64 → UInt64 × UInt64 × UInt64 × UInt64
  | [], _, a, b, c, d => (a, b, c, d)
  | x :: D, w, a, b, c, d => tb q s D (q x) (FP.dadd a (FP.dmul c (FP.i2d (q x - w)))) (FP.dadd b (FP.dmul d (FP.i2d (q x - w)))) (FP.dsub c (FP.dmul (FP.dadd a (FP.dmul c (FP.i2d (q x - w)))) (s x))) (FP.dsub d (FP.dmul (FP.dadd b (FP.dmul d (FP.i2d (q x - w)))) (s x)))
def ok4 (T : UInt64 × UInt64 × UInt64 × UInt64) (K : Nat) : Prop := ok T.1 K ∧ ok T.2.1 K ∧ ok T.2.2.1 K ∧ ok T.2.2.2 K
theorem tb_ok {q : Nat → Int32} {s : Nat → UInt64} : ∀ (D : List Nat) (k : Nat) (w : Int32) (a b c d : UInt64), (∀ x ∈ D, mg (s x) 1024) → k + D.length ≤ 8 → ok4 (a, b, c, d) (1031 + 40 * k) → ok4 (tb q s D w a b c d) 1400 := by
  intro D
  induction D with
  | nil =>
    intro k w a b c d _ hk h
    simp only [List.length_nil] at hk
    exact ⟨ok_mono h.1 (by omega), ok_mono h.2.1 (by omega), ok_mono h.2.2.1 (by omega), ok_mono h.2.2.2 (by omega)⟩
  | cons x D ih =>
    intro k w a b c d hs hk h
    simp only [List.length_cons] at hk
    obtain ⟨ha, hb, hc, hd⟩ := h
    have a1 := (step_h ha hc (by omega) (q x - w)).2.2
    have b1 := (step_h hb hd (by omega) (q x - w)).2.2
    have c1 := (step_u a1 hc (hs x List.mem_cons_self) (by omega)).2.2
    have d1 := (step_u b1 hd (hs x List.mem_cons_self) (by omega)).2.2
    unfold tb
    exact ih (k + 1) _ _ _ _ _ (fun e he => hs e (List.mem_cons_of_mem _ he)) (by omega) ⟨ok_mono a1 (by omega), ok_mono b1 (by omega), ok_mono c1 (by omega), ok_mono d1 (by omega)⟩
theorem goOn_sp {a b c d : UInt64} {K : Nat} (ha : ok a K) (hb : ok b K) (hc : ok c K) (hd : ok d K) (hK : K ≤ 1500) (x : Int32) : f_X4_goOn x a b c d = some (FP.dadd a (FP.dmul c (FP.i2d x)), FP.dadd b (FP.dmul d (FP.i2d x))) := by
  have h1 := step_h ha hc hK x
  have h2 := step_h hb hd hK x
  unfold f_X4_goOn
  rw [gd_t h1.1, gd_t h1.2.1, gd_t h2.1, gd_t h2.2.1]
theorem bend_sp {a b c d s : UInt64} {K : Nat} (ha : ok a (K + 36)) (hb : ok b (K + 36)) (hc : ok c K) (hd : ok d K) (hs : mg s 1024) (hK : K ≤ 1500) : f_X4_bend s a b c d = some (FP.dsub c (FP.dmul a s), FP.dsub d (FP.dmul b s)) := by
  have h1 := step_u ha hc hs hK
  have h2 := step_u hb hd hs hK
  unfold f_X4_bend
  rw [gd_t h1.1, gd_t h1.2.1, gd_t h2.1, gd_t h2.2.1]
theorem lay_lp {q hf : Nat → Int32} {s : Nat → UInt64} {N P H : Nat → Int32} {B : Nat → UInt64} : ∀ (D : List Nat) (k : Nat) (w : Int32) (a b c d : UInt64), Rp q hf s N P H B k D → (∀ x ∈ D, mg (s x) 1024) → k + D.length ≤ 8 → ok4 (a, b, c, d) (1031 + 40 * k) → ∀ fuel, D.length < fuel →
    lp (f_X4_lay_b1 (ii (k + D.length)) P B) fuel (ii k, w, a, b, c, d) = some (tb q s D w a b c d) := by
  intro D
  induction D with
  | nil =>
    intro k w a b c d _ _ hk h fuel hf9
    obtain ⟨f, rfl⟩ := Nat.exists_eq_succ_of_ne_zero (show fuel ≠ 0 by omega)
    rw [lp_st]
    generalize lp (f_X4_lay_b1 (ii (k + ([] : List Nat).length)) P B) f = K
    simp only [List.length_nil] at hk
    unfold f_X4_lay_b1
    simp only [List.length_nil, Nat.add_zero]
    rw [if_pos (show ii k ≤ ii k from (ii_le (by omega) (by omega)).mpr (Nat.le_refl _))]
    rfl
  | cons x D ih =>
    intro k w a b c d hR hs hk h fuel hf9
    obtain ⟨f, rfl⟩ := Nat.exists_eq_succ_of_ne_zero (show fuel ≠ 0 by omega)
    simp only [List.length_cons] at hk hf9
    obtain ⟨⟨r1, r2, r3, r4⟩, hR⟩ := hR
    obtain ⟨ha, hb, hc, hd⟩ := h
    have hv : vin (ii k) 8 = true := vin_ii (by omega) (by omega)
    have a1 := (step_h ha hc (by omega) (q x - w)).2.2
    have b1 := (step_h hb hd (by omega) (q x - w)).2.2
    have c1 := (step_u a1 hc (hs x List.mem_cons_self) (by omega)).2.2
    have d1 := (step_u b1 hd (hs x List.mem_cons_self) (by omega)).2.2
    have ih := ih (k + 1) (q x) _ _ _ _ hR (fun e he => hs e (List.mem_cons_of_mem _ he)) (by omega) ⟨ok_mono a1 (by omega), ok_mono b1 (by omega), ok_mono c1 (by omega), ok_mono d1 (by omega)⟩ f (by omega)
    rw [show k + 1 + D.length = k + (x :: D).length by rw [List.length_cons]; omega] at ih
    rw [lp_st]
    generalize lp (f_X4_lay_b1 (ii (k + (x :: D).length)) P B) f = K at ih ⊢
    unfold f_X4_lay_b1
    simp only [gd_t hv, ii_cl (show k < 100000 by omega), r2, r4, List.length_cons]
    rw [if_neg (show ¬ ii (k + (D.length + 1)) ≤ ii k from fun h => absurd ((ii_le (by omega) (by omega)).mp h) (by omega)), bd_s (goOn_sp ha hb hc hd (by omega) _), bd_s (bend_sp a1 b1 hc hd (hs x List.mem_cons_self) (by omega)), ii_s]
    exact ih
/-- the table of a train -/
def tbS (q : Nat → Int32) (s : Nat → UInt64) (L : List Nat) (th : Int32) : UInt64 × UInt64 × UInt64 × UInt64 := tb q s L th FP.dconst1 FP.dconst0 FP.dconst0 FP.dconst1
theorem ok_one : ok FP.dconst1 1031 := ⟨mg_mono mg_one (by decide), nz_1⟩
theorem ok_zero : ok FP.dconst0 1031 := ⟨mg_zero (by decide), nz_0⟩
theorem tbS_ok {q : Nat → Int32} {s : Nat → UInt64} {L : List Nat} {th : Int32} (hs : ∀ x ∈ L, mg (s x) 1024) (hk : L.length ≤ 8) : ok4 (tbS q s L th) 1400 := tb_ok L 0 th _ _ _ _ hs (by omega) ⟨ok_one, ok_zero, ok_zero, ok_one⟩
theorem lay_sp {q hf : Nat → Int32} {s : Nat → UInt64} {N P H : Nat → Int32} {B : Nat → UInt64} {th : Int32} {L : List Nat} (hR : RI q hf s N P H B L) (hs : ∀ d ∈ L, mg (s d) 1024) (hk : L.length ≤ 8) :
    f_X4_lay (ii L.length) th P B = some (tbS q s L th) := by
  have := lay_lp L 0 th FP.dconst1 FP.dconst0 FP.dconst0 FP.dconst1 hR.rp hs (by omega) ⟨ok_one, ok_zero, ok_zero, ok_one⟩ 1000 (by omega)
  rw [Nat.zero_add] at this
  exact this
/-- one of the four -/
def sel (what : Int32) (T : UInt64 × UInt64 × UInt64 × UInt64) : UInt64 := if what = 0 then T.1 else if what = 1 then T.2.1 else if what = 2 then T.2.2.1 else T.2.2.2
theorem sel_ok {T : UInt64 × UInt64 × UInt64 × UInt64} {K : Nat} (h : ok4 T K) (what : Int32) : ok (sel what T) K := by
  unfold sel
  split
  · exact h.1
  · split
    · exact h.2.1
    · split
      · exact h.2.2.1
      · exact h.2.2.2
section Model
variable {n : Nat} {c th sc : Int32} {pl hf pw gl : Nat → Int32}
theorem bs_0 {pw gl : Nat → Int32} {c : Int32} {d : Nat} (h : pw d = 0) : bs pw gl c d = FP.dconst0 := by show bv _ _ _ = _; unfold bv; exact if_pos h
theorem table_lp (hn : n ≤ 8) (hpg : ∀ i, i < n → pg (pw i) (gl i)) (hc : co c) (what : Int32) : ∀ (D : List Nat) (k : Nat) (w : Int32) (a b e d : UInt64), Tr n pl w sc D → k + D.length ≤ 8 → ok4 (a, b, e, d) (1031 + 40 * k) → ∀ fuel, D.length < fuel →
    lp (f_X8_tableNow_b1 c what (ii n) sc pl pw gl) fuel (hd D, w, d, e, b, a) = some (sel what (tb pl (bs pw gl c) D w a b e d)) := by
  intro D
  induction D with
  | nil =>
    intro k w a b e d _ hk h fuel hf9
    obtain ⟨f, rfl⟩ := Nat.exists_eq_succ_of_ne_zero (show fuel ≠ 0 by omega)
    rw [lp_st]
    generalize lp (f_X8_tableNow_b1 c what (ii n) sc pl pw gl) f = K
    simp only [List.length_nil] at hk
    obtain ⟨ha, hb, he, hd9⟩ := h
    unfold f_X8_tableNow_b1
    simp only [hd]
    rw [if_pos trivial]
    rw [bd_s (plain8 (mg_fin ha.1 (by omega))), bd_s (plain8 (mg_fin hb.1 (by omega))), bd_s (plain8 (mg_fin he.1 (by omega))), bd_s (plain8 (mg_fin hd9.1 (by omega))), pl_nz ha.2, pl_nz hb.2, pl_nz he.2, pl_nz hd9.2]
    unfold sel tb
    split
    · rfl
    · split
      · rfl
      · split <;> rfl
  | cons x D ih =>
    intro k w a b e d hT hk h fuel hf9
    obtain ⟨f, rfl⟩ := Nat.exists_eq_succ_of_ne_zero (show fuel ≠ 0 by omega)
    simp only [List.length_cons] at hk hf9
    have hdn := hT.lt
    have hv : vin (ii x) 8 = true := vin_ii (by omega) (by omega)
    have hnx := next_hd hn hT.tail
    obtain ⟨ha, hb, he, hd9⟩ := h
    have ha : ok a (1031 + 40 * k) := ha
    have hb : ok b (1031 + 40 * k) := hb
    have he : ok e (1031 + 40 * k) := he
    have hd9 : ok d (1031 + 40 * k) := hd9
    have hs := bv_mg (hpg x hdn) hc
    have a1 := step_h ha he (by omega) (pl x - w)
    have b1 := step_h hb hd9 (by omega) (pl x - w)
    have c1 := step_u a1.2.2 he hs (by omega)
    have d1 := step_u b1.2.2 hd9 hs (by omega)
    have ih := ih (k + 1) (pl x) (FP.dadd a (FP.dmul e (FP.i2d (pl x - w)))) (FP.dadd b (FP.dmul d (FP.i2d (pl x - w)))) (FP.dsub e (FP.dmul (FP.dadd a (FP.dmul e (FP.i2d (pl x - w)))) (bv (pw x) (gl x) c))) (FP.dsub d (FP.dmul (FP.dadd b (FP.dmul d (FP.i2d (pl x - w)))) (bv (pw x) (gl x) c))) hT.tail (by omega) ⟨ok_mono a1.2.2 (by omega), ok_mono b1.2.2 (by omega), ok_mono c1.2.2 (by omega), ok_mono d1.2.2 (by omega)⟩ f (by omega)
    rw [lp_st]
    generalize lp (f_X8_tableNow_b1 c what (ii n) sc pl pw gl) f = K at ih ⊢
    unfold f_X8_tableNow_b1
    simp only [hd, gd_t hv, ii_cl (show x < 100000 by omega)]
    rw [if_neg (ii_ne (by omega)), gd_t a1.1, gd_t a1.2.1, gd_t b1.1, gd_t b1.2.1]
    unfold tb
    by_cases e2 : pw x = 0
    · rw [if_pos e2, bd_s hnx]
      have e3 := bs_0 (gl := gl) (c := c) e2
      have z1 : ∀ h u : UInt64, ok h 1500 → ok u 1500 → FP.dsub u (FP.dmul h (bs pw gl c x)) = u := fun h u hh hu => by
        rw [e3]; exact sub_mul_zero (mg_fin hu.1 (by omega)) hu.2 (mg_fin hh.1 (by omega))
      have z2 := z1 _ _ (ok_mono a1.2.2 (by omega)) (ok_mono he (by omega))
      have z3 := z1 _ _ (ok_mono b1.2.2 (by omega)) (ok_mono hd9 (by omega))
      rw [z2, z3]
      rw [show FP.dsub e (FP.dmul (FP.dadd a (FP.dmul e (FP.i2d (pl x - w)))) (bv (pw x) (gl x) c)) = e from z2, show FP.dsub d (FP.dmul (FP.dadd b (FP.dmul d (FP.i2d (pl x - w)))) (bv (pw x) (gl x) c)) = d from z3] at ih
      exact ih
    · rw [if_neg e2, bd_s (bend8 hv (by rw [ii_cl (show x < 100000 by omega)]; exact hpg x hdn) hc), ii_cl (show x < 100000 by omega), gd_t c1.1, gd_t c1.2.1, gd_t d1.1, gd_t d1.2.1, bd_s hnx]
      exact ih
theorem table_sp (hn : n ≤ 8) (hpg : ∀ i, i < n → pg (pw i) (gl i)) (hc : co c) (what : Int32) {L : List Nat} (hT : Tr n pl th sc L) : f_X8_tableNow c what (ii n) th sc pl pw gl = some (sel what (tbS pl (bs pw gl c) L th)) := by
  unfold f_X8_tableNow
  rw [bd_s (next_hd hn hT)]
  exact table_lp hn hpg hc what L 0 th _ _ _ _ hT (by have := hT.2.2; omega) ⟨ok_one, ok_zero, ok_zero, ok_one⟩ 1000 (by have := hT.2.2; omega)
end Model
/-- the opening of a train: which, how much it grasps -/
def upB (b' r least : UInt64) (pos : Option (Nat × Nat)) : Bool := !decide (ky (dabs b') < 4517329193108106637) && (pos.isNone || decide (ky r < ky least))
def opn (q hf : Nat → Int32) (s : Nat → UInt64) : List Nat → Nat → Int32 → UInt64 → UInt64 → Option (Nat × Nat) → UInt64 → Option (Nat × Nat) × UInt64
  | [], _, _, _, _, pos, least => (pos, least)
  | x :: D, k, w, b, d, pos, least => opn q hf s D (k + 1) (q x) (FP.dadd b (FP.dmul d (FP.i2d (q x - w)))) (FP.dsub d (FP.dmul (FP.dadd b (FP.dmul d (FP.i2d (q x - w)))) (s x)))
      (if upB (FP.dadd b (FP.dmul d (FP.i2d (q x - w)))) (FP.ddiv (FP.i2d (hf x)) (dabs (FP.dadd b (FP.dmul d (FP.i2d (q x - w)))))) least pos = true then some (k, x) else pos)
      (if upB (FP.dadd b (FP.dmul d (FP.i2d (q x - w)))) (FP.ddiv (FP.i2d (hf x)) (dabs (FP.dadd b (FP.dmul d (FP.i2d (q x - w)))))) least pos = true then FP.ddiv (FP.i2d (hf x)) (dabs (FP.dadd b (FP.dmul d (FP.i2d (q x - w))))) else least)
theorem abs_abs (a : UInt64) : dabs (dabs a) = dabs a := by
  unfold dabs; rw [UInt64.and_assoc, UInt64.and_self]
theorem ratio_mg {b' : UInt64} {K : Nat} (hb : ok b' K) (hK : K ≤ 1600) (x : Int32) (h : ¬ ky (dabs b') < 4517329193108106637) : mg (FP.ddiv (FP.i2d x) (dabs b')) 1400 :=
  mg_mono (div_mg (mg_i2d x) (mg_mono (mg_abs hb.1) (by omega)) (by rw [abs_abs]; exact h) (by decide)) (by decide)
theorem ratio_n {b' : UInt64} {K : Nat} (hb : ok b' K) (hK : K ≤ 1600) {x : Int32} (hx : x ≠ 0) : n64 (FP.ddiv (FP.i2d x) (dabs b')) = true := by
  refine (n64_iff _).mpr ((FP.Core.notNaN_iff _).mp (FP.Core.ddiv_out' (FP.Core.i2d_fin x) ?_ (mg_fin (mg_abs hb.1) (by omega)).notNaN))
  rw [FP.Core.zero_bits2]
  exact FP.Core.i2d_ne_zero hx
theorem weigh_sp {b' least : UInt64} {K k : Nat} {x : Int32} {y : Nat} {pos : Option (Nat × Nat)} (hb : ok b' K) (hK : K ≤ 1600) (hl : mg least 1400) (hp : ∀ z, pos = some z → z.1 < 100000) :
    f_X2_weigh (ii k) x (dabs b') (cp pos) least = some (cp (if upB b' (FP.ddiv (FP.i2d x) (dabs b')) least pos = true then some (k, y) else pos), if upB b' (FP.ddiv (FP.i2d x) (dabs b')) least pos = true then FP.ddiv (FP.i2d x) (dabs b') else least) := by
  unfold f_X2_weigh upB
  rw [ky_cmp (mg_fin (mg_abs hb.1) (by omega)) fin_small, ky_small]
  by_cases h : ky (dabs b') < 4517329193108106637
  · rw [if_neg (fun h9 => (cv_ge _ _ _).mp h9 h), decide_eq_true h]
    rfl
  · have hr := ratio_mg hb hK x h
    rw [if_pos ((cv_ge _ _ _).mpr h), decide_eq_false h, gd_t (mg_n hr (by decide))]
    cases pos with
    | none => rw [if_pos (show cp none = (-1 : Int32) from rfl)]; rfl
    | some z =>
      have hz := hp z rfl
      rw [show cp (some z) = ii z.1 from rfl, if_neg (ii_ne hz), ky_cmp (mg_fin hr (by decide)) (mg_fin hl (by decide))]
      by_cases h2 : ky (FP.ddiv (FP.i2d x) (dabs b')) < ky least
      · rw [if_neg (fun h9 => (cv_ge _ _ _).mp h9 h2), decide_eq_true h2]; rfl
      · rw [if_pos ((cv_ge _ _ _).mpr h2), decide_eq_false h2]; rfl
theorem up_mg {b' least : UInt64} {K : Nat} {x : Int32} {pos : Option (Nat × Nat)} (hb : ok b' K) (hK : K ≤ 1600) (hl : mg least 1400) : mg (if upB b' (FP.ddiv (FP.i2d x) (dabs b')) least pos = true then FP.ddiv (FP.i2d x) (dabs b') else least) 1400 := by
  split
  · rename_i h
    unfold upB at h
    simp only [Bool.and_eq_true, Bool.not_eq_true', decide_eq_false_iff_not] at h
    exact ratio_mg hb hK x h.1
  · exact hl
theorem up_pos {b' r least : UInt64} {k x : Nat} {pos : Option (Nat × Nat)} (hk : k < 8) (hx : x < 8) (hp : ∀ z, pos = some z → z.1 < 8 ∧ z.2 < 8) : ∀ z, (if upB b' r least pos = true then some (k, x) else pos) = some z → z.1 < 8 ∧ z.2 < 8 := by
  intro z hz
  split at hz
  · cases hz; exact ⟨hk, hx⟩
  · exact hp z hz
theorem opn_ok {q hf : Nat → Int32} {s : Nat → UInt64} : ∀ (D : List Nat) (k : Nat) (w : Int32) (b d : UInt64) (pos : Option (Nat × Nat)) (least : UInt64), (∀ x ∈ D, mg (s x) 1024) → (∀ x ∈ D, x < 8) → k + D.length ≤ 8 → ok b (1031 + 40 * k) → ok d (1031 + 40 * k) → mg least 1400 → (∀ z, pos = some z → z.1 < 8 ∧ z.2 < 8) →
    mg (opn q hf s D k w b d pos least).2 1400 ∧ ∀ z, (opn q hf s D k w b d pos least).1 = some z → z.1 < 8 ∧ z.2 < 8 := by
  intro D
  induction D with
  | nil => intro k w b d pos least _ _ _ _ _ hl hp; exact ⟨hl, hp⟩
  | cons x D ih =>
    intro k w b d pos least hs h8 hk hb hd hl hp
    simp only [List.length_cons] at hk
    have b1 := (step_h hb hd (by omega) (q x - w)).2.2
    have d1 := (step_u b1 hd (hs x List.mem_cons_self) (by omega)).2.2
    unfold opn
    exact ih (k + 1) _ _ _ _ _ (fun e he => hs e (List.mem_cons_of_mem _ he)) (fun e he => h8 e (List.mem_cons_of_mem _ he)) (by omega) (ok_mono b1 (by omega)) (ok_mono d1 (by omega)) (up_mg b1 (by omega) hl) (up_pos (by omega) (h8 x List.mem_cons_self) hp)
theorem seek_lp {q hf : Nat → Int32} {s : Nat → UInt64} {N P H : Nat → Int32} {B : Nat → UInt64} : ∀ (D : List Nat) (k : Nat) (w : Int32) (a b c d : UInt64) (pos : Option (Nat × Nat)) (least : UInt64), Rp q hf s N P H B k D → (∀ x ∈ D, mg (s x) 1024) → (∀ x ∈ D, x < 8) → k + D.length ≤ 8 → ok4 (a, b, c, d) (1031 + 40 * k) → mg least 1400 → (∀ z, pos = some z → z.1 < 8 ∧ z.2 < 8) → ∀ fuel, D.length < fuel →
    ∃ z, lp (f_X2_seek_b1 (ii (k + D.length)) P H B) fuel (ii k, w, cp pos, least, a, b, c, d) = some (cp (opn q hf s D k w b d pos least).1, (opn q hf s D k w b d pos least).2, z) := by
  intro D
  induction D with
  | nil =>
    intro k w a b c d pos least _ _ _ hk h hl hp fuel hf9
    obtain ⟨f, rfl⟩ := Nat.exists_eq_succ_of_ne_zero (show fuel ≠ 0 by omega)
    rw [lp_st]
    generalize lp (f_X2_seek_b1 (ii (k + ([] : List Nat).length)) P H B) f = K
    simp only [List.length_nil] at hk
    refine ⟨(a, b, c, d), ?_⟩
    unfold f_X2_seek_b1
    simp only [List.length_nil, Nat.add_zero]
    rw [if_pos (show ii k ≤ ii k from (ii_le (by omega) (by omega)).mpr (Nat.le_refl _))]
    rfl
  | cons x D ih =>
    intro k w a b c d pos least hR hs h8 hk h hl hp fuel hf9
    obtain ⟨f, rfl⟩ := Nat.exists_eq_succ_of_ne_zero (show fuel ≠ 0 by omega)
    simp only [List.length_cons] at hk hf9
    obtain ⟨⟨r1, r2, r3, r4⟩, hR⟩ := hR
    obtain ⟨ha, hb, hc, hd⟩ := h
    have hv : vin (ii k) 8 = true := vin_ii (by omega) (by omega)
    have a1 := (step_h ha hc (by omega) (q x - w)).2.2
    have b1 := (step_h hb hd (by omega) (q x - w)).2.2
    have c1 := (step_u a1 hc (hs x List.mem_cons_self) (by omega)).2.2
    have d1 := (step_u b1 hd (hs x List.mem_cons_self) (by omega)).2.2
    have ih := ih (k + 1) (q x) _ _ _ _ _ _ hR (fun e he => hs e (List.mem_cons_of_mem _ he)) (fun e he => h8 e (List.mem_cons_of_mem _ he)) (by omega) ⟨ok_mono a1 (by omega), ok_mono b1 (by omega), ok_mono c1 (by omega), ok_mono d1 (by omega)⟩ (up_mg (x := hf x) (pos := pos) b1 (by omega) hl) (up_pos (r := FP.ddiv (FP.i2d (hf x)) (dabs (FP.dadd b (FP.dmul d (FP.i2d (q x - w)))))) (b' := FP.dadd b (FP.dmul d (FP.i2d (q x - w)))) (least := least) (show k < 8 by omega) (h8 x List.mem_cons_self) hp) f (by omega)
    rw [show k + 1 + D.length = k + (x :: D).length by rw [List.length_cons]; omega] at ih
    rw [lp_st]
    generalize lp (f_X2_seek_b1 (ii (k + (x :: D).length)) P H B) f = K at ih ⊢
    unfold f_X2_seek_b1
    simp only [gd_t hv, ii_cl (show k < 100000 by omega), r2, r3, r4, List.length_cons]
    rw [if_neg (show ¬ ii (k + (D.length + 1)) ≤ ii k from fun h => absurd ((ii_le (by omega) (by omega)).mp h) (by omega)), bd_s (goOn_sp ha hb hc hd (by omega) _)]
    simp only []
    rw [bd_s (uns (mg_fin b1.1 (by omega)) b1.2), bd_s (weigh_sp (y := x) b1 (by omega) hl (fun z hz => by have := hp z hz; omega)), bd_s (bend_sp a1 b1 hc hd (hs x List.mem_cons_self) (by omega)), ii_s]
    exact ih
/-- .. of the whole -/
def opS (q hf : Nat → Int32) (s : Nat → UInt64) (L : List Nat) (th : Int32) : Option (Nat × Nat) × UInt64 := opn q hf s L 0 th FP.dconst0 FP.dconst1 none FP.dconst0
theorem opS_ok {q hf : Nat → Int32} {s : Nat → UInt64} {L : List Nat} {th : Int32} (hs : ∀ x ∈ L, mg (s x) 1024) (h8 : ∀ x ∈ L, x < 8) (hk : L.length ≤ 8) : mg (opS q hf s L th).2 1400 ∧ ∀ z, (opS q hf s L th).1 = some z → z.1 < 8 ∧ z.2 < 8 := opn_ok L 0 th _ _ _ _ hs h8 (by omega) ok_zero ok_one (mg_zero (by decide)) (fun z h => by cases h)
theorem seek_sp {q hf : Nat → Int32} {s : Nat → UInt64} {N P H : Nat → Int32} {B : Nat → UInt64} {th : Int32} {L : List Nat} (hR : RI q hf s N P H B L) (hs : ∀ d ∈ L, mg (s d) 1024) (h8 : ∀ x ∈ L, x < 8) (hk : L.length ≤ 8) :
    ∃ z, f_X2_seek (ii L.length) th P H B = some (cp (opS q hf s L th).1, (opS q hf s L th).2, z) := by
  have := seek_lp L 0 th FP.dconst1 FP.dconst0 FP.dconst0 FP.dconst1 none FP.dconst0 hR.rp hs h8 (by omega) ⟨ok_one, ok_zero, ok_zero, ok_one⟩ (mg_zero (by decide)) (fun z h => by cases h) 1000 (by omega)
  rw [Nat.zero_add] at this
  exact this
section Model2
variable {n : Nat} {th sc : Int32} {pl hf pw gl : Nat → Int32}
theorem open_lp (hn : n ≤ 8) (hpg : ∀ i, i < n → pg (pw i) (gl i)) (hh : ∀ i, i < n → hf i ≠ 0) : ∀ (D : List Nat) (k : Nat) (w : Int32) (b d : UInt64) (pos : Option (Nat × Nat)) (least : UInt64), Tr n pl w sc D → k + D.length ≤ 8 → ok b (1031 + 40 * k) → ok d (1031 + 40 * k) → mg least 1400 → (∀ z, pos = some z → z.1 < 8 ∧ z.2 < 8) → ∀ fuel, D.length < fuel →
    lp (f_X8_opening_b1 (ii n) sc pl hf pw gl) fuel (hd D, cn pos, w, d, b, least) = some (cn (opn pl hf (bs pw gl 1) D k w b d pos least).1, (opn pl hf (bs pw gl 1) D k w b d pos least).2) := by
  intro D
  have hco : co 1 := by unfold co; decide
  induction D with
  | nil =>
    intro k w b d pos least _ hk hb hd9 hl hp fuel hf9
    obtain ⟨f, rfl⟩ := Nat.exists_eq_succ_of_ne_zero (show fuel ≠ 0 by omega)
    rw [lp_st]
    generalize lp (f_X8_opening_b1 (ii n) sc pl hf pw gl) f = K
    unfold f_X8_opening_b1
    simp only [hd]
    rw [if_pos trivial]
    rfl
  | cons x D ih =>
    intro k w b d pos least hT hk hb hd9 hl hp fuel hf9
    obtain ⟨f, rfl⟩ := Nat.exists_eq_succ_of_ne_zero (show fuel ≠ 0 by omega)
    simp only [List.length_cons] at hk hf9
    have hdn := hT.lt
    have hv : vin (ii x) 8 = true := vin_ii (by omega) (by omega)
    have hnx := next_hd hn hT.tail
    have hs := bv_mg (hpg x hdn) hco
    have b1 := step_h hb hd9 (by omega) (pl x - w)
    have d1 := step_u b1.2.2 hd9 hs (by omega)
    have ih := ih (k + 1) (pl x) _ _ _ _ hT.tail (by omega) (ok_mono b1.2.2 (by omega)) (ok_mono d1.2.2 (by omega)) (up_mg (x := hf x) (pos := pos) b1.2.2 (by omega) hl) (up_pos (r := FP.ddiv (FP.i2d (hf x)) (dabs (FP.dadd b (FP.dmul d (FP.i2d (pl x - w)))))) (b' := FP.dadd b (FP.dmul d (FP.i2d (pl x - w)))) (least := least) (show k < 8 by omega) (show x < 8 by omega) hp) f (by omega)
    have hrn := ratio_n b1.2.2 (by omega) (hh x hdn)
    have hbend := bend8 hv (by rw [ii_cl (show x < 100000 by omega)]; exact hpg x hdn) hco
    rw [ii_cl (show x < 100000 by omega)] at hbend
    have e4 : pw x = 0 → FP.dsub d (FP.dmul (FP.dadd b (FP.dmul d (FP.i2d (pl x - w)))) (bv (pw x) (gl x) 1)) = d := fun e2 => by
      rw [show bv (pw x) (gl x) 1 = FP.dconst0 from bs_0 (gl := gl) (c := 1) e2]
      exact sub_mul_zero (mg_fin hd9.1 (by omega)) hd9.2 (mg_fin b1.2.2.1 (by omega))
    rw [lp_st]
    generalize lp (f_X8_opening_b1 (ii n) sc pl hf pw gl) f = K at ih ⊢
    unfold f_X8_opening_b1 opn
    show _ = some (cn (opn pl hf (bs pw gl 1) D (k + 1) (pl x) _ (FP.dsub d (FP.dmul _ (bv (pw x) (gl x) 1))) _ _).1, (opn pl hf (bs pw gl 1) D (k + 1) (pl x) _ (FP.dsub d (FP.dmul _ (bv (pw x) (gl x) 1))) _ _).2)
    rw [← ih]
    clear ih
    simp only [hd, gd_t hv, ii_cl (show x < 100000 by omega)]
    rw [if_neg (ii_ne (by omega)), gd_t b1.1]
    simp only [gd_t b1.2.1, gd_t hrn, gd_t d1.1, gd_t d1.2.1, bd_s hnx, bd_s hbend]
    have hbf := mg_fin (mg_abs b1.2.2.1) (by omega)
    generalize hB : FP.dadd b (FP.dmul d (FP.i2d (pl x - w))) = b' at *
    rw [ky_cmp hbf fin_small, ky_small]
    have tail : ∀ (r1 : Int32) (r2 : UInt64), (if pw x = 0 then K (hd D, r1, pl x, d, b', r2) else K (hd D, r1, pl x, FP.dsub d (FP.dmul b' (bv (pw x) (gl x) 1)), b', r2)) = K (hd D, r1, pl x, FP.dsub d (FP.dmul b' (bv (pw x) (gl x) 1)), b', r2) := by
      intro r1 r2
      by_cases e2 : pw x = 0
      · rw [if_pos e2, e4 e2]
      · rw [if_neg e2]
    simp only [tail]
    unfold upB
    by_cases h : ky (dabs b') < 4517329193108106637
    · rw [if_pos ((cv_lt _ _ _).mpr h), decide_eq_true h]
      rfl
    · have hr := ratio_mg b1.2.2 (by omega) (hf x) h
      rw [if_neg (fun h9 => h ((cv_lt _ _ _).mp h9)), decide_eq_false h]
      cases pos with
      | none => rw [if_pos (show cn none = (-1 : Int32) from rfl)]; rfl
      | some z =>
        have hz := hp z rfl
        rw [show cn (some z) = ii z.2 from rfl, if_neg (ii_ne (by omega)), ky_cmp (mg_fin hr (by decide)) (mg_fin hl (by decide))]
        by_cases h2 : ky (FP.ddiv (FP.i2d (hf x)) (dabs b')) < ky least
        · rw [if_neg (fun h9 => (cv_ge _ _ _).mp h9 h2), decide_eq_true h2]; rfl
        · rw [if_pos ((cv_ge _ _ _).mpr h2), decide_eq_false h2]; rfl
theorem open_sp (hn : n ≤ 8) (hpg : ∀ i, i < n → pg (pw i) (gl i)) (hh : ∀ i, i < n → hf i ≠ 0) {L : List Nat} (hT : Tr n pl th sc L) : f_X8_opening (ii n) th sc pl hf pw gl = some (cn (opS pl hf (bs pw gl 1) L th).1, (opS pl hf (bs pw gl 1) L th).2) := by
  unfold f_X8_opening
  rw [bd_s (next_hd hn hT)]
  exact open_lp hn hpg hh L 0 th _ _ none _ hT (by have := hT.2.2; omega) ok_zero ok_one (mg_zero (by decide)) (fun z h => by cases h) 1000 (by have := hT.2.2; omega)
end Model2
end PureTable
