/-! PURE ASKING, second part: ray, table, image, apart, grasp. -/
section PureAsk2
variable {n : Nat} {pl hf pw gl : Nat → Int32} {th sc ta c : Int32} {L : List Nat}
theorem glay (hG : Gd n pl hf pw gl th sc ta) (hc : co c) (hT : Tr n pl th sc L) (N P H : Nat → Int32) (B : Nat → UInt64) : ∃ N' P' H' B', f_X6_layTable c (ii n) th sc pl hf pw gl N P H B = some (ii L.length, th, sc, N', P', H', B', tbS pl (bs pw gl c) L th) := by
  have hsm := hT.small hG.1
  obtain ⟨N', P', H', B', h1, h2⟩ := gline hG hc hT N P H B
  refine ⟨N', P', H', B', ?_⟩
  unfold f_X6_layTable
  rw [bd_s h1, bd_s (lay_sp h2 (hT.bends hG.pgs hc) hsm.1)]
theorem tok (hG : Gd n pl hf pw gl th sc ta) (hc : co c) (hT : Tr n pl th sc L) : ok4 (tbS pl (bs pw gl c) L th) 1400 := tbS_ok (hT.bends hG.pgs hc) (hT.small hG.1).1
theorem inWhat {w hi : Int32} (h : (0 : Int32).toInt ≤ w.toInt ∧ w.toInt ≤ hi.toInt) : 0 ≤ w.toInt ∧ w.toInt ≤ hi.toInt := h
theorem table6 (hG : Gd n pl hf pw gl th sc ta) (hT : Tr n pl th sc L) {w : Int32} (hc : co c) (hw : (0 : Int32).toInt ≤ w.toInt ∧ w.toInt ≤ (3 : Int32).toInt) (N P H : Nat → Int32) (B : Nat → UInt64) : ∃ z, f_X6_table c w (ii n) th sc pl hf pw gl N P H B = some (.inr (sel w (tbS pl (bs pw gl c) L th), z)) := by
  obtain ⟨N', P', H', B', h1⟩ := glay hG hc hT N P H B
  have h4 := tok hG hc hT
  unfold f_X6_table sel
  rw [needColour6, if_pos (show (0 : Int32).toInt ≤ c.toInt ∧ c.toInt ≤ (2 : Int32).toInt from hc), needWhat6, if_pos hw]
  simp only [bx_i]
  rw [bd_s h1]
  generalize tbS pl (bs pw gl c) L th = T at h4 ⊢
  obtain ⟨ha, hb, hcc, hd⟩ := h4
  simp only []
  rw [bd_s (plain6 (mg_fin ha.1 (by decide))), bd_s (plain6 (mg_fin hb.1 (by decide))), bd_s (plain6 (mg_fin hcc.1 (by decide))), bd_s (plain6 (mg_fin hd.1 (by decide))), pl_nz ha.2, pl_nz hb.2, pl_nz hcc.2, pl_nz hd.2]
  by_cases e0 : w = 0
  · rw [if_pos e0, if_pos e0]; exact ⟨_, rfl⟩
  · rw [if_neg e0, if_neg e0]
    by_cases e1 : w = 1
    · rw [if_pos e1, if_pos e1]; exact ⟨_, rfl⟩
    · rw [if_neg e1, if_neg e1]
      by_cases e2 : w = 2
      · rw [if_pos e2, if_pos e2]; exact ⟨_, rfl⟩
      · rw [if_neg e2, if_neg e2]; exact ⟨_, rfl⟩
theorem LM_table (hG : Gd n pl hf pw gl th sc ta) (c w t1 t2 t3 : Int32) (N P H : Nat → Int32) (B : Nat → UInt64) (b1 b2 b3 b4 o : UInt64) : ∃ k x1 x2 x3 x4 x5 x6 x7 y1 y2 y3 y4 o' v, f_L_table c w (ii n) th sc pl hf pw gl t1 t2 t3 N P H B b1 b2 b3 b4 o = some (k, x1, x2, x3, x4, x5, x6, x7, y1, y2, y3, y4, o') ∧ f_X8_table c w (ii n) th sc pl pw gl = some (v, k) ∧ (k = 0 → o' = v ∧ mg v 2000) := by
  obtain ⟨L, hT⟩ := ex_tr hG sc
  unfold f_L_table f_X8_table
  rw [is8]
  by_cases h0 : (0 : Int32).toInt ≤ c.toInt ∧ c.toInt ≤ (2 : Int32).toInt
  · rw [if_pos h0]
    simp only [bd_i]
    rw [if_neg (show ¬ (1 : Int32) = 0 by decide), is8]
    by_cases h1 : (0 : Int32).toInt ≤ w.toInt ∧ w.toInt ≤ (3 : Int32).toInt
    · rw [if_pos h1]
      obtain ⟨z, hz⟩ := table6 hG hT (show co c from h0) h1 N P H B
      simp only [bd_i]
      rw [hz, if_neg (show ¬ (1 : Int32) = 0 by decide)]
      rw [bd_s (table_sp hG.1 hG.pgs (show co c from h0) w hT)]
      exact ⟨0, _, _, _, _, _, _, _, _, _, _, _, _, _, rfl, rfl, fun _ => ⟨rfl, mg_mono (sel_ok (tok hG (show co c from h0) hT) w).1 (by decide)⟩⟩
    · rw [if_neg h1]
      refine ⟨1, t1, t2, t3, N, P, H, B, b1, b2, b3, b4, o, _, ?_, rfl, fun h => absurd h (by decide)⟩
      unfold f_X6_table
      rw [needColour6, if_pos h0, needWhat6, if_neg h1]
      rfl
  · rw [if_neg h0]
    refine ⟨1, t1, t2, t3, N, P, H, B, b1, b2, b3, b4, o, _, ?_, rfl, fun h => absurd h (by decide)⟩
    unfold f_X6_table
    rw [needColour6, if_neg h0]
    rfl
/-- a ray -/
def raS (r : Ray1) (w : Int32) : UInt64 := if w = 0 then r.1 else if w = 1 then r.2.1 else FP.i2d (cn r.2.2)
theorem num_sp {q : Nat → Int32} {s : Nat → UInt64} {N P H : Nat → Int32} {B : Nat → UInt64} (hR : RI q hf s N P H B L) (hk : L.length ≤ 8) {o : Option (Nat × Nat)} (ho : ∀ x, o = some x → L[x.1]? = some x.2) : f_X5_numberAt (cp o) (ii L.length) N = some (cn o) := by
  unfold f_X5_numberAt
  cases o with
  | none => rw [if_pos (show cp none < 0 by decide)]; rfl
  | some x =>
    have h1 := ho x rfl
    have h2 := (List.getElem?_eq_some_iff.mp h1).1
    have h3 := (hR _ _ h1).1
    have hv : vin (ii x.1) 8 = true := vin_ii (by omega) (by omega)
    rw [show cp (some x) = ii x.1 from rfl, if_neg (show ¬ ii x.1 < 0 from fun h => absurd ((ii_lt (b := 0) (by omega) (by omega)).mp h) (by omega)), if_neg (show ¬ ii L.length ≤ ii x.1 from fun h => absurd ((ii_le (by omega) (by omega)).mp h) (by omega)), gd_t hv, ii_cl (by omega), h3]
    rfl
theorem ray6 (hG : Gd n pl hf pw gl th sc ta) (hT : Tr n pl th sc L) {a u w : Int32} (ha : -80 ≤ a.toInt ∧ a.toInt ≤ 80) (hu : -100 ≤ u.toInt ∧ u.toInt ≤ 100) (hc : co c) (hw : (0 : Int32).toInt ≤ w.toInt ∧ w.toInt ≤ (2 : Int32).toInt) (N P H : Nat → Int32) (B : Nat → UInt64) : ∃ z, f_X6_ray a u c w (ii n) th sc pl hf pw gl N P H B = some (.inr (raS (rn pl hf (bs pw gl c) sc L 0 th (FP.ddiv (FP.i2d a) 4616189618054758400) (FP.ddiv (FP.i2d u) 4636737291354636288)) w, z)) := by
  have hsm := hT.small hG.1
  obtain ⟨N', P', H', B', h1, h2⟩ := gline hG hc hT N P H B
  have k1 := ok_mono (h_ok ha.1 ha.2) (show 1029 ≤ 1031 by decide)
  have k2 := ok_mono (s_ok hu.1 hu.2) (show 1029 ≤ 1031 by decide)
  have hrun := run_sp (th := th) (sc := sc) h2 (hT.bends hG.pgs hc) hsm.1 k1 k2
  have hok := rn_ok (q := pl) (hf := hf) (s := bs pw gl c) (sc := sc) L 0 th _ _ (hT.bends hG.pgs hc) (by omega) k1 k2
  have hcut := fun x hx => (rn_cut (q := pl) (hf := hf) (s := bs pw gl c) (sc := sc) L 0 th (FP.ddiv (FP.i2d a) 4616189618054758400) (FP.ddiv (FP.i2d u) 4636737291354636288) x hx).2
  simp only [Nat.sub_zero] at hcut
  unfold f_X6_ray raS
  rw [needColour6, if_pos (show (0 : Int32).toInt ≤ c.toInt ∧ c.toInt ≤ (2 : Int32).toInt from hc), needWhat6, if_pos hw]
  rw [if_neg (show ¬ a < -80 by rw [iL]; exact Int.not_lt.mpr ha.1), if_pos (show a ≤ 80 from (iE _ _).mpr ha.2), if_neg (show ¬ u < -100 by rw [iL]; exact Int.not_lt.mpr hu.1), if_pos (show u ≤ 100 from (iE _ _).mpr hu.2)]
  simp only [bx_i]
  rw [bd_s h1, gd_t (mg_n k1.1 (by decide)), gd_t (mg_n k2.1 (by decide)), bd_s hrun]
  generalize rn pl hf (bs pw gl c) sc L 0 th (FP.ddiv (FP.i2d a) 4616189618054758400) (FP.ddiv (FP.i2d u) 4636737291354636288) = R at hok hcut ⊢
  simp only []
  rw [bd_s (plain6 (mg_fin hok.1.1 (by decide))), bd_s (plain6 (mg_fin hok.2.1 (by decide))), pl_nz hok.1.2, pl_nz hok.2.2, bd_s (num_sp h2 hsm.1 hcut)]
  by_cases e0 : w = 0
  · rw [if_pos e0, if_pos e0]; exact ⟨_, rfl⟩
  · rw [if_neg e0, if_neg e0]
    by_cases e1 : w = 1
    · rw [if_pos e1, if_pos e1]; exact ⟨_, rfl⟩
    · rw [if_neg e1, if_neg e1]; exact ⟨_, rfl⟩
theorem nz_i2d {x : Int32} (h1 : -10 ≤ x.toInt) (h2 : x.toInt ≤ 10) : ok (FP.i2d x) 1031 := okb_ok (rng (lo := 10) (n := 21) (fun v => okb (FP.i2d v) 1031) (by decide +kernel) h1 (by omega))
theorem cn_ok {o : Option (Nat × Nat)} (ho : ∀ x, o = some x → x.2 < 8) : ok (FP.i2d (cn o)) 1031 := by
  cases o with
  | none => exact nz_i2d (by decide) (by decide)
  | some x =>
    have := ho x rfl
    exact nz_i2d (by show _ ≤ (ii x.2).toInt; rw [ii_int (by omega)]; omega) (by show (ii x.2).toInt ≤ _; rw [ii_int (by omega)]; omega)
theorem ray8 (hG : Gd n pl hf pw gl th sc ta) (hT : Tr n pl th sc L) {a u w : Int32} (ha : -80 ≤ a.toInt ∧ a.toInt ≤ 80) (hu : -100 ≤ u.toInt ∧ u.toInt ≤ 100) (hc : co c) : (∃ h' u' c', f_X8_rayNow a u c w (ii n) th sc pl hf pw gl = some (raS (rn pl hf (bs pw gl c) sc L 0 th (FP.ddiv (FP.i2d a) 4616189618054758400) (FP.ddiv (FP.i2d u) 4636737291354636288)) w, h', u', c')) ∧ mg (raS (rn pl hf (bs pw gl c) sc L 0 th (FP.ddiv (FP.i2d a) 4616189618054758400) (FP.ddiv (FP.i2d u) 4636737291354636288)) w) 1400 := by
  have hsm := hT.small hG.1
  have k1 := ok_mono (h_ok ha.1 ha.2) (show 1029 ≤ 1031 by decide)
  have k2 := ok_mono (s_ok hu.1 hu.2) (show 1029 ≤ 1031 by decide)
  have hgo := go_sp (p := (-1 : Int32)) (hf := hf) hG.1 hG.pgs hc hT k1 k2
  rw [filter_no hG.1 hT] at hgo
  have hok := rn_ok (q := pl) (hf := hf) (s := bs pw gl c) (sc := sc) L 0 th _ _ (hT.bends hG.pgs hc) (by omega) k1 k2
  have hcut := fun x hx => (rn_cut (q := pl) (hf := hf) (s := bs pw gl c) (sc := sc) L 0 th (FP.ddiv (FP.i2d a) 4616189618054758400) (FP.ddiv (FP.i2d u) 4636737291354636288) x hx).2
  simp only [Nat.sub_zero] at hcut
  have hcn := cn_ok (fun x hx => hsm.2 _ (List.mem_of_getElem? (hcut x hx)))
  unfold f_X8_rayNow raS
  rw [gd_t (mg_n k1.1 (by decide)), gd_t (mg_n k2.1 (by decide)), bd_s hgo]
  generalize rn pl hf (bs pw gl c) sc L 0 th (FP.ddiv (FP.i2d a) 4616189618054758400) (FP.ddiv (FP.i2d u) 4636737291354636288) = R at hok hcn ⊢
  simp only []
  rw [bd_s (plain8 (mg_fin hok.1.1 (by decide))), bd_s (plain8 (mg_fin hok.2.1 (by decide))), pl_nz hok.1.2, pl_nz hok.2.2, bd_s (plain8 (mg_fin hcn.1 (by decide))), pl_nz hcn.2]
  by_cases e0 : w = 0
  · rw [if_pos e0, if_pos e0]; exact ⟨⟨_, _, _, rfl⟩, hok.1.1⟩
  · rw [if_neg e0, if_neg e0]
    by_cases e1 : w = 1
    · rw [if_pos e1, if_pos e1]; exact ⟨⟨_, _, _, rfl⟩, hok.2.1⟩
    · rw [if_neg e1, if_neg e1]; exact ⟨⟨_, _, _, rfl⟩, mg_mono hcn.1 (by decide)⟩
/-! the image -/
theorem tiny6 {a : UInt64} (h : FP.Core.DFin a) (hz : nz a) : f_X6_isTiny a = some (if ky (dabs a) < 4517329193108106637 then 1 else 0) := by
  unfold f_X6_isTiny
  rw [bd_s (uns h hz), ky_cmp (abs_fin h) fin_small, ky_small]
  by_cases h1 : ky (dabs a) < 4517329193108106637
  · rw [if_neg (fun h9 => (cv_ge _ _ _).mp h9 h1), if_pos h1]
  · rw [if_pos ((cv_ge _ _ _).mpr h1), if_neg h1]
def bk (T : UInt64 × UInt64 × UInt64 × UInt64) : UInt64 := FP.dneg (FP.ddiv T.2.1 T.2.2.2)
theorem bk_mg {T : UInt64 × UInt64 × UInt64 × UInt64} (h : ok4 T 1400) (ht : ¬ ky (dabs T.2.2.2) < 4517329193108106637) : mg (FP.ddiv T.2.1 T.2.2.2) 1421 ∧ mg (bk T) 1421 := by
  have h1 := div_mg h.2.1.1 (mg_mono h.2.2.2.1 (by decide)) ht (by decide)
  exact ⟨h1, mg_neg h1⟩
theorem back6 {T : UInt64 × UInt64 × UInt64 × UInt64} (h : ok4 T 1400) (ht : ¬ ky (dabs T.2.2.2) < 4517329193108106637) : f_X4_back T.2.1 T.2.2.2 = some (bk T) := by
  unfold f_X4_back
  rw [bd_s (tiny6 (mg_fin h.2.2.2.1 (by decide)) h.2.2.2.2), if_neg ht, if_pos rfl, gd_t (mg_n (bk_mg h ht).1 (by decide))]
  rfl
theorem has6 {T : UInt64 × UInt64 × UInt64 × UInt64} (h : ok4 T 1400) : f_X4_hasImage T.2.2.2 = some (if ky (dabs T.2.2.2) < 4517329193108106637 then 0 else 1) := by
  unfold f_X4_hasImage
  rw [bd_s (tiny6 (mg_fin h.2.2.2.1 (by decide)) h.2.2.2.2)]
  split
  · rw [if_neg (by decide)]
  · rw [if_pos rfl]
def imS (T : UInt64 × UInt64 × UInt64 × UInt64) (w : Int32) : UInt64 :=
  if w = 4 then (if ky (dabs T.2.2.1) < 4517329193108106637 then FP.dconst0 else pl_ (FP.dneg (FP.ddiv FP.dconst1 T.2.2.1)))
  else if ky (dabs T.2.2.2) < 4517329193108106637 then FP.dconst0
  else if w = 0 then FP.dconst1 else if w = 1 then pl_ (bk T) else if w = 2 then pl_ (FP.dadd T.1 (FP.dmul T.2.2.1 (bk T))) else if 0 < ky (bk T) then FP.dconst1 else FP.dconst0
theorem foc_mg {T : UInt64 × UInt64 × UInt64 × UInt64} (h : ok4 T 1400) (ht : ¬ ky (dabs T.2.2.1) < 4517329193108106637) : mg (FP.ddiv FP.dconst1 T.2.2.1) 1421 := mg_mono (div_mg mg_one (mg_mono h.2.2.1.1 (by decide)) ht (by decide)) (by decide)
theorem lar_mg {T : UInt64 × UInt64 × UInt64 × UInt64} (h : ok4 T 1400) {x : UInt64} (hx : mg x 1421) : mg (FP.dmul T.2.2.1 x) 1799 ∧ mg (FP.dadd T.1 (FP.dmul T.2.2.1 x)) 1801 := by
  have h1 : mg (FP.dmul T.2.2.1 x) 1799 := mg_mono (mg_mul h.2.2.1.1 hx (by decide) (by decide)) (by decide)
  exact ⟨h1, mg_add (mg_mono h.1.1 (by decide)) h1 (by decide)⟩
theorem imS_mg {T : UInt64 × UInt64 × UInt64 × UInt64} (h : ok4 T 1400) (w : Int32) : mg (imS T w) 1801 := by
  unfold imS
  split
  · split
    · exact mg_zero (by decide)
    · rename_i ht; exact mg_pl (mg_neg (mg_mono (foc_mg h ht) (by decide))) (by decide)
  · split
    · exact mg_zero (by decide)
    · rename_i ht
      split
      · exact mg_mono mg_one (by decide)
      · split
        · exact mg_pl (mg_mono (bk_mg h ht).2 (by decide)) (by decide)
        · split
          · exact mg_pl (lar_mg h (bk_mg h ht).2).2 (by decide)
          · split
            · exact mg_mono mg_one (by decide)
            · exact mg_zero (by decide)
theorem image6 (hG : Gd n pl hf pw gl th sc ta) (hT : Tr n pl th sc L) {w : Int32} (hc : co c) (hw : (0 : Int32).toInt ≤ w.toInt ∧ w.toInt ≤ (4 : Int32).toInt) (N P H : Nat → Int32) (B : Nat → UInt64) : ∃ z, f_X6_image c w (ii n) th sc pl hf pw gl N P H B = some (.inr (imS (tbS pl (bs pw gl c) L th) w, z)) := by
  obtain ⟨N', P', H', B', h1⟩ := glay hG hc hT N P H B
  have h4 := tok hG hc hT
  unfold f_X6_image imS
  rw [needColour6, if_pos (show (0 : Int32).toInt ≤ c.toInt ∧ c.toInt ≤ (2 : Int32).toInt from hc), needWhat6, if_pos hw]
  simp only [bx_i]
  rw [bd_s h1]
  generalize tbS pl (bs pw gl c) L th = T at h4 ⊢
  simp only []
  by_cases e4 : w = 4
  · rw [if_pos e4, if_pos e4]
    unfold f_X4_focus
    rw [bd_s (tiny6 (mg_fin h4.2.2.1.1 (by decide)) h4.2.2.1.2)]
    by_cases ht : ky (dabs T.2.2.1) < 4517329193108106637
    · rw [if_pos ht, if_pos ht, if_neg (show ¬ (1 : Int32) = 0 by decide), bd_i, bd_s (plain6 pf_zero.fin), pl_nz nz_0]
      exact ⟨_, rfl⟩
    · rw [if_neg ht, if_neg ht, if_pos rfl, gd_t (mg_n (foc_mg h4 ht) (by decide)), bd_i, bd_s (plain6 (mg_fin (mg_neg (foc_mg h4 ht)) (by decide)))]
      exact ⟨_, rfl⟩
  · rw [if_neg e4, if_neg e4, bd_s (has6 h4)]
    by_cases ht : ky (dabs T.2.2.2) < 4517329193108106637
    · rw [if_pos ht, if_pos ht, if_pos rfl]
      exact ⟨_, rfl⟩
    · rw [if_neg ht, if_neg ht, if_neg (show ¬ (1 : Int32) = 0 by decide)]
      have hb := back6 h4 ht
      have hbm := bk_mg h4 ht
      by_cases e0 : w = 0
      · rw [if_pos e0, if_pos e0]; exact ⟨_, rfl⟩
      · rw [if_neg e0, if_neg e0]
        by_cases e1 : w = 1
        · rw [if_pos e1, if_pos e1, bd_s hb, bd_s (plain6 (mg_fin hbm.2 (by decide)))]; exact ⟨_, rfl⟩
        · rw [if_neg e1, if_neg e1]
          by_cases e2 : w = 2
          · have hl := lar_mg h4 hbm.2
            rw [if_pos e2, if_pos e2]
            unfold f_X4_magnification
            rw [bd_s hb, gd_t (mg_n hl.1 (by decide)), gd_t (mg_n hl.2 (by decide)), bd_i, bd_s (plain6 (mg_fin hl.2 (by decide)))]
            exact ⟨_, rfl⟩
          · rw [if_neg e2, if_neg e2, bd_s hb, ky_cmp (mg_fin hbm.2 (by decide)) pf_zero.fin, ky_0]
            by_cases hp : 0 < ky (bk T)
            · rw [if_neg (fun h9 => (cv_le _ _ _).mp h9 hp), if_pos hp]; exact ⟨_, rfl⟩
            · rw [if_pos ((cv_le _ _ _).mpr hp), if_neg hp]; exact ⟨_, rfl⟩
theorem has8 (hG : Gd n pl hf pw gl th sc ta) (hT : Tr n pl th sc L) (hc : co c) : f_X8_hasImage c (ii n) th sc pl pw gl = some (if ky (dabs (tbS pl (bs pw gl c) L th).2.2.2) < 4517329193108106637 then 0 else 1) := by
  have h4 := tok hG hc hT
  unfold f_X8_hasImage
  rw [bd_s (table_sp hG.1 hG.pgs hc 3 hT)]
  generalize tbS pl (bs pw gl c) L th = T at h4 ⊢
  rw [show sel 3 T = T.2.2.2 from rfl, gd_t (mg_n h4.2.2.2.1 (by decide)), ky_cmp (abs_fin (mg_fin h4.2.2.2.1 (by decide))) fin_small, ky_small]
  by_cases ht : ky (dabs T.2.2.2) < 4517329193108106637
  · rw [if_pos ((cv_lt _ _ _).mpr ht), if_pos ht]
  · rw [if_neg (fun h9 => ht ((cv_lt _ _ _).mp h9)), if_neg ht]
theorem back8 (hG : Gd n pl hf pw gl th sc ta) (hT : Tr n pl th sc L) (hc : co c) (ht : ¬ ky (dabs (tbS pl (bs pw gl c) L th).2.2.2) < 4517329193108106637) : f_X8_back c (ii n) th sc pl pw gl = some (pl_ (bk (tbS pl (bs pw gl c) L th))) := by
  have h4 := tok hG hc hT
  unfold f_X8_back
  rw [bd_s (table_sp hG.1 hG.pgs hc 1 hT), bd_s (table_sp hG.1 hG.pgs hc 3 hT)]
  generalize tbS pl (bs pw gl c) L th = T at h4 ht ⊢
  rw [show sel 3 T = T.2.2.2 from rfl, show sel 1 T = T.2.1 from rfl, gd_t (mg_n (bk_mg h4 ht).1 (by decide))]
  show bd (f_X8_plain (bk T)) _ = _
  rw [bd_s (plain8 (mg_fin (bk_mg h4 ht).2 (by decide)))]
theorem image8 (hG : Gd n pl hf pw gl th sc ta) (hT : Tr n pl th sc L) {w : Int32} (hc : co c) (hw : (0 : Int32).toInt ≤ w.toInt ∧ w.toInt ≤ (4 : Int32).toInt) : f_X8_imageNow c w (ii n) th sc pl pw gl = some (imS (tbS pl (bs pw gl c) L th) w) := by
  have h4 := tok hG hc hT
  unfold f_X8_imageNow
  rw [bd_s (table_sp hG.1 hG.pgs hc 2 hT), bd_s (has8 hG hT hc)]
  by_cases ht : ky (dabs (tbS pl (bs pw gl c) L th).2.2.2) < 4517329193108106637
  · rw [if_pos ht]
    unfold imS
    rw [if_pos ht, if_pos rfl]
    generalize tbS pl (bs pw gl c) L th = T at h4 ht ⊢
    rw [show sel 2 T = T.2.2.1 from rfl, gd_t (mg_n h4.2.2.1.1 (by decide)), ky_cmp (abs_fin (mg_fin h4.2.2.1.1 (by decide))) fin_small, ky_small]
    by_cases e4 : w = 4
    · rw [if_pos e4, if_pos e4]
      by_cases h5 : ky (dabs T.2.2.1) < 4517329193108106637
      · rw [if_pos ((cv_lt _ _ _).mpr h5), if_pos h5]
      · rw [if_neg (fun h9 => h5 ((cv_lt _ _ _).mp h9)), if_neg h5, gd_t (mg_n (foc_mg h4 h5) (by decide)), bd_s (plain8 (mg_fin (mg_neg (foc_mg h4 h5)) (by decide)))]
    · rw [if_neg e4, if_neg e4]
  · rw [if_neg ht, if_neg (show ¬ (1 : Int32) = 0 by decide), bd_s (back8 hG hT hc ht), bd_s (table_sp hG.1 hG.pgs hc 0 hT), bd_s (table_sp hG.1 hG.pgs hc 2 hT)]
    unfold imS
    rw [if_neg ht]
    generalize tbS pl (bs pw gl c) L th = T at h4 ht ⊢
    have hbm := bk_mg h4 ht
    rw [show sel 2 T = T.2.2.1 from rfl, show sel 0 T = T.1 from rfl, gd_t (mg_n h4.2.2.1.1 (by decide)), ky_cmp (abs_fin (mg_fin h4.2.2.1.1 (by decide))) fin_small, ky_small]
    by_cases e4 : w = 4
    · rw [if_pos e4, if_pos e4]
      by_cases h5 : ky (dabs T.2.2.1) < 4517329193108106637
      · rw [if_pos ((cv_lt _ _ _).mpr h5), if_pos h5]
      · rw [if_neg (fun h9 => h5 ((cv_lt _ _ _).mp h9)), if_neg h5, gd_t (mg_n (foc_mg h4 h5) (by decide)), bd_s (plain8 (mg_fin (mg_neg (foc_mg h4 h5)) (by decide)))]
    · rw [if_neg e4, if_neg e4]
      by_cases e0 : w = 0
      · rw [if_pos e0, if_pos e0]
      · rw [if_neg e0, if_neg e0]
        by_cases e1 : w = 1
        · rw [if_pos e1, if_pos e1]
        · rw [if_neg e1, if_neg e1]
          have hpm := mg_pl hbm.2 (by decide)
          have hl := lar_mg h4 hpm
          rw [ky_cmp (mg_fin hpm (by decide)) pf_zero.fin, ky_0, ky_pl, gd_t (mg_n hl.1 (by decide)), gd_t (mg_n hl.2 (by decide)), bd_s (plain8 (mg_fin hl.2 (by decide))), pl_mul (mg_fin h4.1.1 (by decide)) h4.1.2 (mg_fin h4.2.2.1.1 (by decide))]
          by_cases e3 : w = 3
          · rw [if_pos e3, if_neg (show ¬ w = 2 by rw [e3]; decide)]
            by_cases hp : 0 < ky (bk T)
            · rw [if_neg (fun h9 => (cv_le _ _ _).mp h9 hp), if_pos hp]
            · rw [if_pos ((cv_le _ _ _).mpr hp), if_neg hp]
          · have e2 : w = 2 := by
              refine Int32.toInt_inj.mp ?_
              have n0 : w.toInt ≠ 0 := fun h => e0 (Int32.toInt_inj.mp h)
              have n1 : w.toInt ≠ 1 := fun h => e1 (Int32.toInt_inj.mp h)
              have n3 : w.toInt ≠ 3 := fun h => e3 (Int32.toInt_inj.mp h)
              have n4 : w.toInt ≠ 4 := fun h => e4 (Int32.toInt_inj.mp h)
              have h1 : 0 ≤ w.toInt := hw.1
              have h2 : w.toInt ≤ 4 := hw.2
              show w.toInt = 2
              omega
            rw [if_neg e3, if_pos e2]
end PureAsk2
