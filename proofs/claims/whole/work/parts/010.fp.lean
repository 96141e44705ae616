/-! PURE FLOATS: magnitudes, no -0.0, comparisons. -/
section PureFP
theorem pf_mask (a : UInt64) : (a &&& 0x7fffffffffffffff).toNat = a.toNat % 2 ^ 63 := by
  rw [UInt64.toNat_and]
  exact Nat.and_two_pow_sub_one_eq_mod a.toNat 63
/-- the magnitude is below 2 to the (K - 1023) -/
def mg (a : UInt64) (K : Nat) : Prop := a.toNat % 2 ^ 63 < K * 2 ^ 52
/-- not -0.0 -/
def nz (a : UInt64) : Prop := a ≠ 0x8000000000000000
def ok (a : UInt64) (K : Nat) : Prop := mg a K ∧ nz a
theorem mg_mono {a : UInt64} {K L : Nat} (h : mg a K) (hL : K ≤ L) : mg a L := Nat.lt_of_lt_of_le h (Nat.mul_le_mul_right _ hL)
theorem ok_mono {a : UInt64} {K L : Nat} (h : ok a K) (hL : K ≤ L) : ok a L := ⟨mg_mono h.1 hL, h.2⟩
theorem n64_iff (a : UInt64) : n64 a = true ↔ FP.Core.val64 a ≠ .nan := by
  unfold n64
  rw [decide_eq_true_iff, UInt64.le_iff_toNat_le, pf_mask, FP.Core.ne_nan]
  exact Iff.rfl
theorem mg_fin {a : UInt64} {K : Nat} (h : mg a K) (hK : K ≤ 2047) : FP.Core.DFin a := FP.Core.fin_of_lt h hK
theorem mg_n {a : UInt64} {K : Nat} (h : mg a K) (hK : K ≤ 2047) : n64 a = true := (n64_iff a).mpr (mg_fin h hK).ne_nan
theorem mg_add {a b : UInt64} {K : Nat} (ha : mg a K) (hb : mg b K) (hK : K ≤ 2047) : mg (FP.dadd a b) (K + 2) := FP.Core.dadd_mag ha hb hK
theorem mg_sub {a b : UInt64} {K : Nat} (ha : mg a K) (hb : mg b K) (hK : K ≤ 2047) : mg (FP.dsub a b) (K + 2) := FP.Core.dsub_mag ha hb hK
theorem mg_mul {a b : UInt64} {Ka Kb : Nat} (ha : mg a Ka) (hb : mg b Kb) (hKa : Ka ≤ 2047) (hKb : Kb ≤ 2047) : mg (FP.dmul a b) (Ka + Kb - 1025 + 3) := FP.Core.dmul_mag ha hb hKa hKb
theorem mg_i2d (v : Int32) : mg (FP.i2d v) 1056 := FP.Core.i2d_mag v
theorem pf_neg (a : UInt64) : (FP.dneg a).toNat % 2 ^ 63 = a.toNat % 2 ^ 63 := by
  show (a ^^^ 0x8000000000000000).toNat % 2 ^ 63 = _
  rw [UInt64.toNat_xor, Nat.xor_mod_two_pow]
  exact Nat.xor_zero _
theorem mg_neg {a : UInt64} {K : Nat} (h : mg a K) : mg (FP.dneg a) K := by
  unfold mg; rw [pf_neg]; exact h
theorem mg_abs {a : UInt64} {K : Nat} (h : mg a K) : mg (dabs a) K := by
  unfold mg dabs; rw [pf_mask, Nat.mod_mod]; exact h
theorem mg_zero {K : Nat} (hK : 1 ≤ K) : mg FP.dconst0 K := by
  show 0 < K * 2 ^ 52
  exact Nat.mul_pos hK (by decide)
theorem nz_0 : nz FP.dconst0 := by unfold nz; decide
theorem nz_1 : nz FP.dconst1 := by unfold nz; decide
theorem mg_one : mg FP.dconst1 1024 := by unfold mg; decide
/-- a sum is -0.0 of two of them alone -/
theorem pf_zval_neg {a : UInt64} (h : FP.Core.val64 a ≠ .nan) : FP.Core.zval FP.Core.b64 (FP.Core.val64 a) = 0 ↔ a = FP.dconst0 ∨ a = 0x8000000000000000 := by
  rw [FP.Core.zval_eq_zero h]
  constructor
  · intro h1
    have h2 := a.toNat_lt
    rcases (show a.toNat = 0 ∨ a.toNat = 9223372036854775808 by omega) with h3 | h3
    · exact Or.inl (UInt64.toNat.inj h3)
    · exact Or.inr (UInt64.toNat.inj h3)
  · rintro (rfl | rfl) <;> decide
theorem pf_one : FP.Core.zval FP.Core.b64 (FP.Core.val64 1) = 1 := by decide +kernel
theorem pf_mone : FP.Core.zval FP.Core.b64 (FP.Core.val64 9223372036854775809) = -1 := by decide +kernel
theorem nz_add {a b : UInt64} (ha : FP.Core.DFin a) (hb : FP.Core.DFin b) (h : nz a) : nz (FP.dadd a b) := by
  intro h1
  have hv : FP.Core.val64 (FP.Core.dadd a b) = .fin true 0 FP.Core.b64.qmin := by
    rw [show FP.Core.dadd a b = 0x8000000000000000 from h1]; decide +kernel
  rw [FP.Core.val64_dadd] at hv
  have hs : FP.Core.zval FP.Core.b64 (FP.Core.val64 a) + FP.Core.zval FP.Core.b64 (FP.Core.val64 b) = 0 := by
    have hz : FP.Core.zval FP.Core.b64 (FP.Core.round FP.Core.b64 (FP.Core.exactSum (FP.Core.val64 a) (FP.Core.val64 b))) = 0 := by
      rw [hv]; decide
    rcases Int.lt_trichotomy (FP.Core.zval FP.Core.b64 (FP.Core.val64 a) + FP.Core.zval FP.Core.b64 (FP.Core.val64 b)) 0 with h2 | h2 | h2
    · have h3 := FP.Core.sum_le FP.Core.good_b64 ha hb (FP.Core.val64_fits a) (FP.Core.val64_fits b) (FP.Core.val64_fits 9223372036854775809) (by decide +kernel) (by rw [pf_mone]; omega)
      rw [hz, pf_mone] at h3
      omega
    · exact h2
    · have h3 := FP.Core.sum_ge FP.Core.good_b64 ha hb (FP.Core.val64_fits a) (FP.Core.val64_fits b) (FP.Core.val64_fits 1) (by decide +kernel) (by rw [pf_one]; omega)
      rw [hz, pf_one] at h3
      omega
  obtain ⟨s, c, q, ea⟩ := ha
  obtain ⟨t, d, r, eb⟩ := hb
  have fa := FP.Core.val64_fits a
  have fb := FP.Core.val64_fits b
  rw [ea] at fa hs hv
  rw [eb] at fb hs hv
  obtain ⟨sg, n, e, h2, h3, h4⟩ := FP.Core.sum_units fa fb
  have h5 : FP.Core.exactSum (.fin s c q) (.fin t d r) = .fin (FP.Core.sumSign s t (FP.Core.sumUnits s c q t d r (min q r))) (FP.Core.sumUnits s c q t d r (min q r)).natAbs (min q r) := rfl
  generalize FP.Core.sumUnits s c q t d r (min q r) = v at h5
  rw [h2] at h5
  obtain ⟨e1, e2, e3⟩ := FP.Core.Datum.fin.inj h5
  rw [hs, FP.Core.signed_eq_zero] at h4
  have hn : n = 0 := by
    rcases Nat.mul_eq_zero.mp (show n * 2 ^ (e - FP.Core.b64.qmin).toNat = 0 from h4) with h | h
    · exact h
    · exact absurd h (Nat.ne_of_gt (Nat.two_pow_pos _))
  have hv0 : v = 0 := by omega
  rw [hv0] at e1
  have e1 : sg = (s && t) := e1
  rw [h2, hn] at hv
  have hr : FP.Core.round FP.Core.b64 (.fin sg 0 e) = .fin sg 0 FP.Core.b64.qmin := by
    show FP.Core.roundRatio _ _ _ _ _ = _
    unfold FP.Core.roundRatio
    exact if_pos rfl
  rw [hr] at hv
  rw [(FP.Core.Datum.fin.inj hv).1] at e1
  have hst : s = true ∧ t = true := by simpa using e1.symm
  obtain ⟨rfl, rfl⟩ := hst
  have za : FP.Core.zval FP.Core.b64 (.fin true c q) = -((FP.Core.inUnits c q FP.Core.b64.qmin : Nat) : Int) := rfl
  have zb : FP.Core.zval FP.Core.b64 (.fin true d r) = -((FP.Core.inUnits d r FP.Core.b64.qmin : Nat) : Int) := rfl
  rw [za, zb] at hs
  have h6 : FP.Core.inUnits c q FP.Core.b64.qmin = 0 := by omega
  have h7 : FP.Core.zval FP.Core.b64 (FP.Core.val64 a) = 0 := by rw [ea, za, h6]; rfl
  rcases (pf_zval_neg (by rw [ea]; exact FP.Core.Datum.noConfusion)).mp h7 with h8 | h8
  · rw [h8, show FP.Core.val64 FP.dconst0 = .fin false 0 FP.Core.b64.qmin from by decide +kernel] at ea
    cases ea
  · exact h h8
theorem fin_neg {a : UInt64} (h : FP.Core.DFin a) : FP.Core.DFin (FP.dneg a) := by
  rw [FP.Core.fin_bits, pf_neg, ← FP.Core.fin_bits]; exact h
theorem neg_core {a : UInt64} (h : FP.Core.DFin a) : FP.Core.dneg a = FP.dneg a := (FP.dneg_core h.notNaN).symm
theorem nz_sub {a b : UInt64} (ha : FP.Core.DFin a) (hb : FP.Core.DFin b) (h : nz a) : nz (FP.dsub a b) := by
  show nz (FP.Core.dsub a b)
  rw [FP.Core.dsub_eq, neg_core hb]
  exact nz_add ha (fin_neg hb) h
theorem zero_two {z : UInt64} (h : FP.Core.DZero z) : z = FP.dconst0 ∨ z = 0x8000000000000000 := FP.Core.zero_bits (FP.Core.zero_iff.mpr h)
theorem pf_zero : FP.Core.DZero FP.dconst0 := (FP.Core.zero_bits2 _).mpr rfl
theorem pf_nzero : FP.Core.DZero 0x8000000000000000 := (FP.Core.zero_bits2 _).mpr rfl
theorem add_zero {a z : UInt64} (ha : FP.Core.DFin a) (h : nz a) (hz : FP.Core.DZero z) : FP.dadd a z = a := by
  rcases zero_two hz with rfl | rfl
  · exact FP.Core.dadd_zero ha.ne_nan h
  · exact FP.Core.dadd_zeroNeg ha.ne_nan
theorem sub_zero {a z : UInt64} (ha : FP.Core.DFin a) (h : nz a) (hz : FP.Core.DZero z) : FP.dsub a z = a := by
  show FP.Core.dsub a z = a
  rw [FP.Core.dsub_eq, neg_core hz.fin]
  refine add_zero ha h ((FP.Core.zero_bits2 _).mpr ?_)
  rw [pf_neg]
  exact (FP.Core.zero_bits2 _).mp hz
/-- a stop leaves the slope as it is -/
theorem sub_mul_zero {u h : UInt64} (hu : FP.Core.DFin u) (hz : nz u) (hh : FP.Core.DFin h) : FP.dsub u (FP.dmul h FP.dconst0) = u := sub_zero hu hz (FP.Core.dmul_zero hh pf_zero)
/-- keys: the order of doubles -/
abbrev ky (a : UInt64) : Int := FP.Core.dkey a
theorem ky_cmp {a b : UInt64} (ha : FP.Core.DFin a) (hb : FP.Core.DFin b) : FP.dcmp a b = some (compare (ky a) (ky b)) := FP.Core.dcmp_key ha.ne_nan hb.ne_nan
theorem cv_lt (x y : Int) (o : CmpOp) : Op.cmpValue (some (compare x y)) o < 0 ↔ x < y := by
  rcases Int.lt_trichotomy x y with h | h | h
  · rw [(FP.Core.compare_lt_iff x y).mpr h]; exact ⟨fun _ => h, fun _ => by cases o <;> decide⟩
  · rw [(FP.Core.compare_eq_iff x y).mpr h]; exact ⟨fun h9 => absurd h9 (by cases o <;> decide), fun _ => by omega⟩
  · rw [(FP.Core.compare_gt_iff x y).mpr h]; exact ⟨fun h9 => absurd h9 (by cases o <;> decide), fun _ => by omega⟩
theorem cv_ge (x y : Int) (o : CmpOp) : 0 ≤ Op.cmpValue (some (compare x y)) o ↔ ¬ x < y := by
  rw [← cv_lt x y o, Int32.le_iff_toInt_le, Int32.lt_iff_toInt_lt]
  omega
theorem cv_le (x y : Int) (o : CmpOp) : Op.cmpValue (some (compare x y)) o ≤ 0 ↔ ¬ y < x := by
  rcases Int.lt_trichotomy x y with h | h | h
  · rw [(FP.Core.compare_lt_iff x y).mpr h]; exact ⟨fun _ => by omega, fun _ => by cases o <;> decide⟩
  · rw [(FP.Core.compare_eq_iff x y).mpr h]; exact ⟨fun h9 => by omega, fun _ => by cases o <;> decide⟩
  · rw [(FP.Core.compare_gt_iff x y).mpr h]; exact ⟨fun h9 => absurd h9 (by cases o <;> decide), fun _ => by omega⟩
theorem cv_eq (x y : Int) (o : CmpOp) : Op.cmpValue (some (compare x y)) o = 0 ↔ x = y := by
  rcases Int.lt_trichotomy x y with h | h | h
  · rw [(FP.Core.compare_lt_iff x y).mpr h]; exact ⟨fun h9 => absurd h9 (by cases o <;> decide), fun _ => by omega⟩
  · rw [(FP.Core.compare_eq_iff x y).mpr h]; exact ⟨fun h9 => h, fun _ => by cases o <;> decide⟩
  · rw [(FP.Core.compare_gt_iff x y).mpr h]; exact ⟨fun h9 => absurd h9 (by cases o <;> decide), fun _ => by omega⟩
theorem ky_inj {a b : UInt64} (ha : nz a) (hb : nz b) (h : ky a = ky b) : a = b := by
  have h1 := a.toNat_lt
  have h2 := b.toNat_lt
  have h3 : a.toNat ≠ 9223372036854775808 := fun h => ha (UInt64.toNat.inj h)
  have h4 : b.toNat ≠ 9223372036854775808 := fun h => hb (UInt64.toNat.inj h)
  refine UInt64.toNat.inj ?_
  unfold ky FP.Core.dkey at h
  split at h <;> split at h <;> omega
theorem ky_zero (a : UInt64) : ky a = 0 ↔ a = FP.dconst0 ∨ a = 0x8000000000000000 := by
  constructor
  · intro h
    have h1 := a.toNat_lt
    unfold ky FP.Core.dkey at h
    rcases (show a.toNat = 0 ∨ a.toNat = 9223372036854775808 by split at h <;> omega) with h3 | h3
    · exact Or.inl (UInt64.toNat.inj h3)
    · exact Or.inr (UInt64.toNat.inj h3)
  · rintro (rfl | rfl) <;> decide
theorem ky_0 : ky FP.dconst0 = 0 := by decide
theorem abs_key (a : UInt64) : ky (dabs a) = ((a.toNat % 2 ^ 63 : Nat) : Int) := FP.Core.mask_key a
theorem abs_nn {a : UInt64} (hz : nz a) (h : ¬ ky a < 0) : dabs a = a := by
  have h1 := a.toNat_lt
  have h3 : a.toNat ≠ 9223372036854775808 := fun h => hz (UInt64.toNat.inj h)
  refine UInt64.toNat.inj ?_
  unfold dabs
  rw [pf_mask]
  unfold ky FP.Core.dkey at h
  split at h <;> omega
theorem abs_ng {a : UInt64} (h : ky a < 0) : dabs a = FP.dneg a := by
  have h1 := a.toNat_lt
  refine UInt64.toNat.inj ?_
  unfold dabs
  rw [pf_mask, ← pf_neg]
  refine Nat.mod_eq_of_lt ?_
  show (a ^^^ 0x8000000000000000).toNat < 2 ^ 63
  rw [UInt64.toNat_xor]
  unfold ky FP.Core.dkey at h
  have h2 : 2 ^ 63 ≤ a.toNat := by split at h <;> omega
  have h3 : (a.toNat ^^^ 9223372036854775808) % 2 ^ 63 = a.toNat % 2 ^ 63 := by
    rw [Nat.xor_mod_two_pow]; exact Nat.xor_zero _
  have h4 : (a.toNat ^^^ 9223372036854775808) / 2 ^ 63 = 0 := by
    rw [Nat.xor_div_two_pow, show a.toNat / 2 ^ 63 = 1 by omega]
    rfl
  show a.toNat ^^^ 9223372036854775808 < 2 ^ 63
  omega
/-- plain: no -0.0 -/
def pl_ (a : UInt64) : UInt64 := if ky a = 0 then FP.dconst0 else a
theorem plain8 {a : UInt64} (h : FP.Core.DFin a) : f_X8_plain a = some (pl_ a) := by
  unfold f_X8_plain pl_
  rw [ky_cmp h pf_zero.fin, ky_0]
  by_cases h1 : ky a = 0
  · rw [if_pos ((cv_eq _ _ _).mpr h1), if_pos h1]
  · rw [if_neg (fun h2 => h1 ((cv_eq _ _ _).mp h2)), if_neg h1]
theorem plain6 {a : UInt64} (h : FP.Core.DFin a) : f_X6_plain a = some (pl_ a) := plain8 h
theorem pl_nz {a : UInt64} (h : nz a) : pl_ a = a := by
  unfold pl_
  split
  · rename_i h1
    rcases (ky_zero a).mp h1 with h2 | h2
    · exact h2.symm
    · exact absurd h2 h
  · rfl
theorem nz_pl (a : UInt64) : nz (pl_ a) := by
  unfold pl_
  split
  · exact nz_0
  · rename_i h1
    exact fun h2 => h1 ((ky_zero a).mpr (Or.inr h2))
theorem mg_pl {a : UInt64} {K : Nat} (h : mg a K) (hK : 1 ≤ K) : mg (pl_ a) K := by
  unfold pl_
  split
  · exact mg_zero hK
  · exact h
theorem pl_two (a : UInt64) : pl_ a = a ∨ (a = 0x8000000000000000 ∧ pl_ a = FP.dconst0) := by
  by_cases h : nz a
  · exact Or.inl (pl_nz h)
  · have h1 : a = 0x8000000000000000 := Decidable.not_not.mp h
    subst h1
    exact Or.inr ⟨rfl, rfl⟩
theorem ky_pl (a : UInt64) : ky (pl_ a) = ky a := by
  unfold pl_
  split
  · rename_i h; rw [h]; exact ky_0
  · rfl
theorem uns {a : UInt64} (h : FP.Core.DFin a) (hz : nz a) : f_X6_unsigned a = some (dabs a) := by
  unfold f_X6_unsigned
  rw [ky_cmp h pf_zero.fin, ky_0]
  by_cases h1 : ky a < 0
  · rw [if_neg (fun h2 => (cv_ge _ _ _).mp h2 h1), abs_ng h1]
  · rw [if_pos ((cv_ge _ _ _).mpr h1), abs_nn hz h1]
def tiny (a : UInt64) : Prop := ky (dabs a) < 4517329193108106637
theorem abs_fin {a : UInt64} (h : FP.Core.DFin a) : FP.Core.DFin (dabs a) := by
  rw [FP.Core.fin_bits]; unfold dabs; rw [pf_mask, Nat.mod_mod, ← FP.Core.fin_bits]; exact h
theorem ky_small : ky 4517329193108106637 = 4517329193108106637 := by decide +kernel
theorem fin_small : FP.Core.DFin 4517329193108106637 := (FP.Core.fin_bits _).mpr (by decide)
theorem div_mg {a b : UInt64} {K : Nat} (ha : mg a K) (hb : mg b 2047) (ht : ¬ ky (dabs b) < 4517329193108106637) (hK : K ≤ 2047) : mg (FP.ddiv a b) (K + 21) := by
  rw [abs_key] at ht
  have h := FP.Core.ddiv_mag (a := a) (b := b) (K := K) (L := 1003) ha (by omega) hb hK (by decide)
  exact mg_mono h (by omega)
theorem dmax_k {a b : UInt64} (ha : FP.Core.DFin a) (hb : FP.Core.DFin b) (za : nz a) (zb : nz b) : dmax a b = if ky a < ky b then b else a := by
  unfold dmax Native.java_lang_Math.nans.pick64
  rw [ky_cmp ha hb]
  rcases Int.lt_trichotomy (ky a) (ky b) with h | h | h
  · rw [(FP.Core.compare_lt_iff _ _).mpr h, if_pos h]; rfl
  · have e := ky_inj za zb h
    subst e
    rw [(FP.Core.compare_eq_iff _ _).mpr rfl, if_neg (Int.lt_irrefl _)]
    exact ite_self _
  · rw [(FP.Core.compare_gt_iff _ _).mpr h, if_neg (show ¬ ky a < ky b by omega)]; rfl
theorem dmin_k {a b : UInt64} (ha : FP.Core.DFin a) (hb : FP.Core.DFin b) (za : nz a) (zb : nz b) : dmin a b = if ky b < ky a then b else a := by
  unfold dmin Native.java_lang_Math.nans.pick64
  rw [ky_cmp ha hb]
  rcases Int.lt_trichotomy (ky a) (ky b) with h | h | h
  · rw [(FP.Core.compare_lt_iff _ _).mpr h, if_neg (show ¬ ky b < ky a by omega)]; rfl
  · have e := ky_inj za zb h
    subst e
    rw [(FP.Core.compare_eq_iff _ _).mpr rfl, if_neg (Int.lt_irrefl _)]
    exact ite_self _
  · rw [(FP.Core.compare_gt_iff _ _).mpr h, if_pos h]; rfl
theorem key_val {a b : UInt64} (ha : FP.Core.DFin a) (hb : FP.Core.DFin b) : ky a < ky b ↔ FP.Core.zval FP.Core.b64 (FP.Core.val64 a) < FP.Core.zval FP.Core.b64 (FP.Core.val64 b) := by
  have h := ky_cmp ha hb
  have h2 : FP.Core.dcmp a b = _ := FP.Core.dcmp_zval ha.ne_nan hb.ne_nan
  rw [show FP.Core.dcmp a b = FP.dcmp a b from rfl, h] at h2
  have h3 := Option.some.inj h2
  rw [← FP.Core.compare_lt_iff, h3, FP.Core.compare_lt_iff]
/-- what is no less, less the other, isn't below 0 -/
theorem sub_nn {a b : UInt64} (ha : FP.Core.DFin a) (hb : FP.Core.DFin b) (hf : FP.Core.DFin (FP.dsub a b)) (h : ¬ ky a < ky b) : ¬ ky (FP.dsub a b) < 0 := by
  rw [← ky_0, key_val hf pf_zero.fin]
  rw [key_val ha hb] at h
  have hn := fin_neg hb
  have h1 : FP.Core.val64 (FP.dsub a b) = FP.Core.round FP.Core.b64 (FP.Core.exactSum (FP.Core.val64 a) (FP.Core.negate (FP.Core.val64 b))) := FP.Core.val64_dsub a b
  have hneg : FP.Core.zval FP.Core.b64 (FP.Core.negate (FP.Core.val64 b)) = - FP.Core.zval FP.Core.b64 (FP.Core.val64 b) := by
    obtain ⟨s, c, q, e⟩ := hb
    rw [e]
    cases s
    · rfl
    · show (_ : Int) = - - _
      rw [Int.neg_neg]; rfl
  have h0 : FP.Core.zval FP.Core.b64 (FP.Core.val64 FP.dconst0) = 0 := (pf_zval_neg pf_zero.fin.ne_nan).mpr (Or.inl rfl)
  have h2 := FP.Core.sum_ge FP.Core.good_b64 (x := FP.Core.val64 a) (y := FP.Core.negate (FP.Core.val64 b)) (V := FP.Core.val64 FP.dconst0) ha (by obtain ⟨s, c, q, e⟩ := hb; exact ⟨!s, c, q, by rw [e]; rfl⟩) (FP.Core.val64_fits a) (FP.Core.negate_fits (FP.Core.val64_fits b)) (FP.Core.val64_fits _) pf_zero.fin.ne_nan (by rw [hneg, h0]; omega)
  rw [h1]
  omega
/-- plain twice over a difference -/
theorem pl_sub {x y : UInt64} (hx : FP.Core.DFin x) (hy : FP.Core.DFin y) : pl_ (FP.dsub (pl_ x) (pl_ y)) = pl_ (FP.dsub x y) := by
  have key : ∀ {x y z : UInt64}, FP.Core.DFin x → FP.Core.DZero y → FP.Core.DZero z → pl_ (FP.dsub x y) = pl_ (FP.dsub x z) := by
    intro x y z hx hy hz
    by_cases h : nz x
    · rw [sub_zero hx h hy, sub_zero hx h hz]
    · have h1 : x = 0x8000000000000000 := Decidable.not_not.mp h
      subst h1
      rcases zero_two hy with rfl | rfl <;> rcases zero_two hz with rfl | rfl <;> decide +kernel
  have key2 : ∀ {x y z : UInt64}, FP.Core.DFin x → FP.Core.DZero y → FP.Core.DZero z → pl_ (FP.dsub y x) = pl_ (FP.dsub z x) := by
    intro x y z hx hy hz
    show pl_ (FP.Core.dsub y x) = pl_ (FP.Core.dsub z x)
    rw [FP.Core.dsub_eq, FP.Core.dsub_eq, FP.Core.dadd_comm y, FP.Core.dadd_comm z, neg_core hx]
    by_cases h : nz (FP.dneg x)
    · show pl_ (FP.dadd _ _) = pl_ (FP.dadd _ _)
      rw [add_zero (fin_neg hx) h hy, add_zero (fin_neg hx) h hz]
    · have h1 : FP.dneg x = 0x8000000000000000 := Decidable.not_not.mp h
      rw [h1]
      rcases zero_two hy with rfl | rfl <;> rcases zero_two hz with rfl | rfl <;> decide +kernel
  rcases pl_two x with h1 | ⟨h1, h2⟩ <;> rcases pl_two y with h3 | ⟨h3, h4⟩
  · rw [h1, h3]
  · rw [h1, h4, h3]; exact key hx pf_zero pf_nzero
  · rw [h3, h2, h1]; exact key2 hy pf_zero pf_nzero
  · rw [h2, h4, h1, h3]; decide +kernel
theorem pl_mul {a c x : UInt64} (ha : FP.Core.DFin a) (hz : nz a) (hc : FP.Core.DFin c) : FP.dadd a (FP.dmul c (pl_ x)) = FP.dadd a (FP.dmul c x) := by
  rcases pl_two x with h1 | ⟨h1, h2⟩
  · rw [h1]
  · rw [h2, h1, add_zero ha hz (FP.Core.dmul_zero hc pf_zero), add_zero ha hz (FP.Core.dmul_zero hc pf_nzero)]
theorem pl_d2l (x : UInt64) : FP.d2l (FP.dmul 4661225614328463360 (pl_ x)) = FP.d2l (FP.dmul 4661225614328463360 x) := by
  rcases pl_two x with h1 | ⟨h1, h2⟩
  · rw [h1]
  · rw [h2, h1]; decide +kernel
/-! whole numbers as doubles, by trial -/
def okb (a : UInt64) (K : Nat) : Bool := decide (a.toNat % 2 ^ 63 < K * 2 ^ 52) && a != 0x8000000000000000
theorem okb_ok {a : UInt64} {K : Nat} (h : okb a K = true) : ok a K := by
  unfold okb at h
  rw [Bool.and_eq_true, decide_eq_true_iff, bne_iff_ne] at h
  exact h
theorem rng {v : Int32} {lo n : Nat} (P : Int32 → Bool) (h : (List.range n).all (fun k => P (Int32.ofInt ((k : Int) - (lo : Int)))) = true) (h1 : -(lo : Int) ≤ v.toInt) (h2 : v.toInt + (lo : Int) < (n : Int)) : P v = true := by
  rw [List.all_eq_true] at h
  have h3 := h (v.toInt + (lo : Int)).toNat (List.mem_range.mpr (by omega))
  rw [show (((v.toInt + (lo : Int)).toNat : Nat) : Int) - (lo : Int) = v.toInt by omega, Int32.ofInt_toInt] at h3
  exact h3
theorem h_ok {v : Int32} (h1 : -80 ≤ v.toInt) (h2 : v.toInt ≤ 80) : ok (FP.ddiv (FP.i2d v) 4616189618054758400) 1029 :=
  okb_ok (rng (lo := 80) (n := 161) (fun v => okb (FP.ddiv (FP.i2d v) 4616189618054758400) 1029) (by decide +kernel) h1 (by omega))
theorem k_ok {v : Int32} (h1 : -10 ≤ v.toInt) (h2 : v.toInt ≤ 10) : ok (FP.ddiv (FP.i2d v) 4632233691727265792) 1029 :=
  okb_ok (rng (lo := 10) (n := 21) (fun v => okb (FP.ddiv (FP.i2d v) 4632233691727265792) 1029) (by decide +kernel) h1 (by omega))
theorem s_ok {v : Int32} (h1 : -100 ≤ v.toInt) (h2 : v.toInt ≤ 100) : ok (FP.ddiv (FP.i2d v) 4636737291354636288) 1029 :=
  okb_ok (rng (lo := 100) (n := 201) (fun v => okb (FP.ddiv (FP.i2d v) 4636737291354636288) 1029) (by decide +kernel) h1 (by omega))
/-- the spread by glass -/
def sp (g : Int32) : UInt64 := if g = 1 then 4581421828931458171 else if g = 2 then 4587366580439587226 else FP.dconst0
/-- the strength by power, glass and colour -/
def bv (p g c : Int32) : UInt64 := if p = 0 then FP.dconst0 else FP.dmul (FP.ddiv (FP.i2d p) 4636737291354636288) (FP.dadd FP.dconst1 (FP.dmul (FP.i2d (c - 1)) (sp g)))
def bvb (p g c : Int32) : Bool := n64 (FP.ddiv (FP.i2d p) 4636737291354636288) && (n64 (FP.dmul (FP.i2d (c - 1)) (sp g)) && (n64 (FP.dadd FP.dconst1 (FP.dmul (FP.i2d (c - 1)) (sp g))) && (n64 (FP.dmul (FP.ddiv (FP.i2d p) 4636737291354636288) (FP.dadd FP.dconst1 (FP.dmul (FP.i2d (c - 1)) (sp g)))) && decide ((bv p g c).toNat % 2 ^ 63 < 1024 * 2 ^ 52))))
theorem bvb_all : (List.range 101).all (fun a => (List.range 3).all fun b => (List.range 3).all fun d => bvb (Int32.ofInt ((a : Int) - 50)) (Int32.ofInt (b : Int)) (Int32.ofInt (d : Int))) = true := by decide +kernel
theorem bvb_in {p g c : Int32} (p1 : -50 ≤ p.toInt) (p2 : p.toInt ≤ 50) (g1 : 0 ≤ g.toInt) (g2 : g.toInt ≤ 2) (c1 : 0 ≤ c.toInt) (c2 : c.toInt ≤ 2) : bvb p g c = true := by
  have h := bvb_all
  rw [List.all_eq_true] at h
  have h := h (p.toInt + 50).toNat (List.mem_range.mpr (by omega))
  rw [List.all_eq_true] at h
  have h := h g.toInt.toNat (List.mem_range.mpr (by omega))
  rw [List.all_eq_true] at h
  have h := h c.toInt.toNat (List.mem_range.mpr (by omega))
  rw [show (((p.toInt + 50).toNat : Nat) : Int) - 50 = p.toInt by omega, show ((g.toInt.toNat : Nat) : Int) = g.toInt by omega, show ((c.toInt.toNat : Nat) : Int) = c.toInt by omega, Int32.ofInt_toInt, Int32.ofInt_toInt, Int32.ofInt_toInt] at h
  exact h
/-- power and glass as a piece has them -/
def pg (p g : Int32) : Prop := -50 ≤ p.toInt ∧ p.toInt ≤ 50 ∧ (p = 0 ∨ 0 ≤ g.toInt ∧ g.toInt ≤ 2)
def co (c : Int32) : Prop := 0 ≤ c.toInt ∧ c.toInt ≤ 2
theorem bv_mg {p g c : Int32} (h : pg p g) (hc : co c) : mg (bv p g c) 1024 := by
  obtain ⟨h1, h2, h3⟩ := h
  rcases h3 with rfl | ⟨h3, h4⟩
  · unfold bv; rw [if_pos rfl]; exact mg_zero (by decide)
  · have h5 := bvb_in h1 h2 h3 h4 hc.1 hc.2
    unfold bvb at h5
    simp only [Bool.and_eq_true, decide_eq_true_iff] at h5
    exact h5.2.2.2.2
theorem gd_t {α : Type} {b : Bool} {x : Option α} (h : b = true) : gd b x = x := by rw [h]; rfl
theorem bd_s {α β : Type} {x : Option α} {a : α} {k : α → Option β} (h : x = some a) : bd x k = k a := by rw [h]; rfl
theorem bend6 {p g c : Int32} (h : pg p g) (hc : co c) : f_X6_bendOf p g c = some (bv p g c) := by
  unfold f_X6_bendOf bv
  by_cases hp : p = 0
  · rw [if_pos hp, if_pos hp]
  · rw [if_neg hp, if_neg hp]
    obtain ⟨h1, h2, h3⟩ := h
    obtain ⟨h3, h4⟩ := h3.resolve_left hp
    have h5 := bvb_in h1 h2 h3 h4 hc.1 hc.2
    unfold bvb sp at h5
    simp only [Bool.and_eq_true, decide_eq_true_iff] at h5
    obtain ⟨a1, a2, a3, a4, -⟩ := h5
    unfold sp
    by_cases e1 : g = 1
    · rw [if_pos e1] at a2 a3 a4 ⊢
      rw [if_pos e1, gd_t a1, gd_t a2, gd_t a3, gd_t a4]
    · rw [if_neg e1] at a2 a3 a4 ⊢
      rw [if_neg e1]
      by_cases e2 : g = 2
      · rw [if_pos e2] at a2 a3 a4 ⊢
        rw [if_pos e2, gd_t a1, gd_t a2, gd_t a3, gd_t a4]
      · rw [if_neg e2] at a2 a3 a4 ⊢
        rw [if_neg e2, gd_t a1, gd_t a2, gd_t a3, gd_t a4]
theorem bend8 {i c : Int32} {pw gl : Nat → Int32} (hv : vin i 8 = true) (h : pg (pw i.toNatClampNeg) (gl i.toNatClampNeg)) (hc : co c) : f_X8_strengthNow i c pw gl = some (bv (pw i.toNatClampNeg) (gl i.toNatClampNeg) c) := by
  unfold f_X8_strengthNow bv
  generalize pw i.toNatClampNeg = p at *
  generalize gl i.toNatClampNeg = g at *
  simp only [gd_t hv]
  by_cases hp : p = 0
  · rw [if_pos hp, if_pos hp]
  · rw [if_neg hp, if_neg hp]
    obtain ⟨h1, h2, h3⟩ := h
    obtain ⟨h3, h4⟩ := h3.resolve_left hp
    have h5 := bvb_in h1 h2 h3 h4 hc.1 hc.2
    unfold bvb sp at h5
    simp only [Bool.and_eq_true, decide_eq_true_iff] at h5
    obtain ⟨a1, a2, a3, a4, -⟩ := h5
    unfold sp
    by_cases e1 : g = 1
    · rw [if_pos e1] at a2 a3 a4 ⊢
      rw [if_neg (show ¬ g = 0 by rw [e1]; decide), if_pos e1, gd_t a1, gd_t a2, gd_t a3, gd_t a4]
    · rw [if_neg e1] at a2 a3 a4 ⊢
      rw [if_neg e1]
      by_cases e2 : g = 2
      · rw [if_pos e2] at a2 a3 a4 ⊢
        rw [if_neg (show ¬ g = 0 by rw [e2]; decide), gd_t a1, gd_t a2, gd_t a3, gd_t a4]
      · rw [if_neg e2] at a2 a3 a4 ⊢
        have e0 : g = 0 := by
          refine Int32.toInt_inj.mp ?_
          have n1 : g.toInt ≠ 1 := fun h => e1 (Int32.toInt_inj.mp h)
          have n2 : g.toInt ≠ 2 := fun h => e2 (Int32.toInt_inj.mp h)
          show g.toInt = 0
          omega
        rw [if_pos e0, gd_t a1, gd_t a2, gd_t a3, gd_t a4]
end PureFP
