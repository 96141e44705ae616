/-! PURE ASKING, third part: the calls with what they refuse; what is counted. -/
section PureAsk3
variable {n : Nat} {pl hf pw gl : Nat → Int32} {th sc ta re c : Int32} {L : List Nat}
theorem LM_ray (hG : Gd n pl hf pw gl th sc ta) (a u c w t1 t2 t3 : Int32) (N P H : Nat → Int32) (B : Nat → UInt64) (r1 r2 : UInt64) (r3 : Int32) (o h0 u0 : UInt64) (c0 : Int32) : ∃ k x1 x2 x3 x4 x5 x6 x7 y1 y2 y3 o' v h' u' c', f_L_ray a u c w (ii n) th sc pl hf pw gl t1 t2 t3 N P H B r1 r2 r3 o = some (k, x1, x2, x3, x4, x5, x6, x7, y1, y2, y3, o') ∧ f_X8_ray a u c w (ii n) th sc h0 u0 c0 pl hf pw gl = some (v, k, h', u', c') ∧ (k = 0 → o' = v ∧ mg v 2000) := by
  obtain ⟨L, hT⟩ := ex_tr hG sc
  unfold f_L_ray f_X8_ray
  rw [is8]
  by_cases q1 : (-80 : Int32).toInt ≤ a.toInt ∧ a.toInt ≤ (80 : Int32).toInt
  · rw [if_pos q1]
    simp only [bd_i]
    rw [if_neg (show ¬ (1 : Int32) = 0 by decide), is8]
    by_cases q2 : (-100 : Int32).toInt ≤ u.toInt ∧ u.toInt ≤ (100 : Int32).toInt
    · rw [if_pos q2]
      simp only [bd_i]
      rw [if_neg (show ¬ (1 : Int32) = 0 by decide), is8]
      by_cases q3 : (0 : Int32).toInt ≤ c.toInt ∧ c.toInt ≤ (2 : Int32).toInt
      · rw [if_pos q3]
        simp only [bd_i]
        rw [if_neg (show ¬ (1 : Int32) = 0 by decide), is8]
        by_cases q4 : (0 : Int32).toInt ≤ w.toInt ∧ w.toInt ≤ (2 : Int32).toInt
        · rw [if_pos q4]
          obtain ⟨z, hz⟩ := ray6 hG hT (w := w) q1 q2 (show co c from q3) q4 N P H B
          obtain ⟨⟨h', u', c', h8⟩, hm⟩ := ray8 hG hT (w := w) q1 q2 (show co c from q3)
          simp only [bd_i]
          rw [hz, if_neg (show ¬ (1 : Int32) = 0 by decide), bd_s h8]
          exact ⟨0, _, _, _, _, _, _, _, _, _, _, _, _, _, _, _, rfl, rfl, fun _ => ⟨rfl, mg_mono hm (by decide)⟩⟩
        · rw [if_neg q4]
          refine ⟨1, t1, t2, t3, N, P, H, B, r1, r2, r3, o, _, h0, u0, c0, ?_, rfl, fun h => absurd h (by decide)⟩
          unfold f_X6_ray
          rw [if_neg (show ¬ a < -80 by rw [iL]; omega), if_pos (show a ≤ 80 from (iE _ _).mpr q1.2), if_neg (show ¬ u < -100 by rw [iL]; omega), if_pos (show u ≤ 100 from (iE _ _).mpr q2.2), needColour6, if_pos q3, needWhat6, if_neg q4]
          rfl
      · rw [if_neg q3]
        refine ⟨1, t1, t2, t3, N, P, H, B, r1, r2, r3, o, _, h0, u0, c0, ?_, rfl, fun h => absurd h (by decide)⟩
        unfold f_X6_ray
        rw [if_neg (show ¬ a < -80 by rw [iL]; omega), if_pos (show a ≤ 80 from (iE _ _).mpr q1.2), if_neg (show ¬ u < -100 by rw [iL]; omega), if_pos (show u ≤ 100 from (iE _ _).mpr q2.2), needColour6, if_neg q3]
        rfl
    · rw [if_neg q2]
      refine ⟨1, t1, t2, t3, N, P, H, B, r1, r2, r3, o, _, h0, u0, c0, ?_, rfl, fun h => absurd h (by decide)⟩
      unfold f_X6_ray
      rw [if_neg (show ¬ a < -80 by rw [iL]; omega), if_pos (show a ≤ 80 from (iE _ _).mpr q1.2)]
      by_cases q5 : u < -100
      · rw [if_pos q5]; rfl
      · rw [if_neg q5, if_neg (show ¬ u ≤ 100 by rw [iL] at q5; rw [iE]; omega)]; rfl
  · rw [if_neg q1]
    refine ⟨1, t1, t2, t3, N, P, H, B, r1, r2, r3, o, _, h0, u0, c0, ?_, rfl, fun h => absurd h (by decide)⟩
    unfold f_X6_ray
    by_cases q5 : a < -80
    · rw [if_pos q5]; rfl
    · rw [if_neg q5, if_neg (show ¬ a ≤ 80 by rw [iL] at q5; rw [iE]; omega)]; rfl
theorem LM_image (hG : Gd n pl hf pw gl th sc ta) (c w t1 t2 t3 : Int32) (N P H : Nat → Int32) (B : Nat → UInt64) (b1 b2 b3 b4 o : UInt64) : ∃ k x1 x2 x3 x4 x5 x6 x7 y1 y2 y3 y4 o' v, f_L_image c w (ii n) th sc pl hf pw gl t1 t2 t3 N P H B b1 b2 b3 b4 o = some (k, x1, x2, x3, x4, x5, x6, x7, y1, y2, y3, y4, o') ∧ f_X8_image c w (ii n) th sc pl pw gl = some (v, k) ∧ (k = 0 → o' = v ∧ mg v 2000) := by
  obtain ⟨L, hT⟩ := ex_tr hG sc
  unfold f_L_image f_X8_image
  rw [is8]
  by_cases h0 : (0 : Int32).toInt ≤ c.toInt ∧ c.toInt ≤ (2 : Int32).toInt
  · rw [if_pos h0]
    simp only [bd_i]
    rw [if_neg (show ¬ (1 : Int32) = 0 by decide), is8]
    by_cases h1 : (0 : Int32).toInt ≤ w.toInt ∧ w.toInt ≤ (4 : Int32).toInt
    · rw [if_pos h1]
      obtain ⟨z, hz⟩ := image6 hG hT (show co c from h0) h1 N P H B
      simp only [bd_i]
      rw [hz, if_neg (show ¬ (1 : Int32) = 0 by decide)]
      rw [bd_s (image8 hG hT (show co c from h0) h1)]
      exact ⟨0, _, _, _, _, _, _, _, _, _, _, _, _, _, rfl, rfl, fun _ => ⟨rfl, mg_mono (imS_mg (tok hG (show co c from h0) hT) w) (by decide)⟩⟩
    · rw [if_neg h1]
      refine ⟨1, t1, t2, t3, N, P, H, B, b1, b2, b3, b4, o, _, ?_, rfl, fun h => absurd h (by decide)⟩
      unfold f_X6_image
      rw [needColour6, if_pos h0, needWhat6, if_neg h1]
      rfl
  · rw [if_neg h0]
    refine ⟨1, t1, t2, t3, N, P, H, B, b1, b2, b3, b4, o, _, ?_, rfl, fun h => absurd h (by decide)⟩
    unfold f_X6_image
    rw [needColour6, if_neg h0]
    rfl
/-- apart -/
def apS (T0 T2 : UInt64 × UInt64 × UInt64 × UInt64) : UInt64 := if ky (dabs T0.2.2.2) < 4517329193108106637 then FP.dconst0 else if ky (dabs T2.2.2.2) < 4517329193108106637 then FP.dconst0 else pl_ (FP.dsub (bk T2) (bk T0))
theorem apS_mg {T0 T2 : UInt64 × UInt64 × UInt64 × UInt64} (h0 : ok4 T0 1400) (h2 : ok4 T2 1400) : mg (apS T0 T2) 1423 := by
  unfold apS
  split
  · exact mg_zero (by decide)
  · rename_i t0
    split
    · exact mg_zero (by decide)
    · rename_i t2
      exact mg_pl (mg_sub (bk_mg h2 t2).2 (bk_mg h0 t0).2 (by decide)) (by decide)
theorem apart6 (hG : Gd n pl hf pw gl th sc ta) (hT : Tr n pl th sc L) (N P H : Nat → Int32) (B : Nat → UInt64) : ∃ z, f_X6_apart (ii n) th sc pl hf pw gl N P H B = some (apS (tbS pl (bs pw gl 0) L th) (tbS pl (bs pw gl 2) L th), z) := by
  obtain ⟨N', P', H', B', h1⟩ := glay hG co0 hT N P H B
  obtain ⟨N2, P2, H2, B2, h2⟩ := glay hG co2 hT N' P' H' B'
  have k0 := tok hG co0 hT
  have k2 := tok hG co2 hT
  unfold f_X6_apart apS
  rw [bd_s h1]
  generalize tbS pl (bs pw gl 0) L th = T0 at k0 ⊢
  generalize tbS pl (bs pw gl 2) L th = T2 at k2 h2 ⊢
  simp only []
  rw [bd_s (has6 k0)]
  by_cases t0 : ky (dabs T0.2.2.2) < 4517329193108106637
  · rw [if_pos t0, if_pos t0, if_pos rfl]; exact ⟨_, rfl⟩
  · rw [if_neg t0, if_neg t0, if_neg (show ¬ (1 : Int32) = 0 by decide), bd_s (back6 k0 t0), bd_s h2]
    simp only []
    rw [bd_s (has6 k2)]
    by_cases t2 : ky (dabs T2.2.2.2) < 4517329193108106637
    · rw [if_pos t2, if_pos t2, if_pos rfl]; exact ⟨_, rfl⟩
    · have hm := mg_sub (bk_mg k2 t2).2 (bk_mg k0 t0).2 (by decide)
      rw [if_neg t2, if_neg t2, if_neg (show ¬ (1 : Int32) = 0 by decide), bd_s (back6 k2 t2), gd_t (mg_n hm (by decide)), bd_s (plain6 (mg_fin hm (by decide)))]
      exact ⟨_, rfl⟩
theorem apart8 (hG : Gd n pl hf pw gl th sc ta) (hT : Tr n pl th sc L) : f_X8_apartNow (ii n) th sc pl pw gl = some (apS (tbS pl (bs pw gl 0) L th) (tbS pl (bs pw gl 2) L th)) := by
  have k0 := tok hG co0 hT
  have k2 := tok hG co2 hT
  unfold f_X8_apartNow apS
  rw [bd_s (has8 hG hT co0)]
  by_cases t0 : ky (dabs (tbS pl (bs pw gl 0) L th).2.2.2) < 4517329193108106637
  · rw [if_pos t0, if_pos t0, if_pos rfl]
  · rw [if_neg t0, if_neg t0, if_neg (show ¬ (1 : Int32) = 0 by decide), bd_s (has8 hG hT co2)]
    by_cases t2 : ky (dabs (tbS pl (bs pw gl 2) L th).2.2.2) < 4517329193108106637
    · rw [if_pos t2, if_pos t2, if_pos rfl]
    · rw [if_neg t2, if_neg t2, if_neg (show ¬ (1 : Int32) = 0 by decide), bd_s (back8 hG hT co2 t2), bd_s (back8 hG hT co0 t0)]
      have b2 := (bk_mg k2 t2).2
      have b0 := (bk_mg k0 t0).2
      have hm := mg_sub (mg_pl b2 (by decide)) (mg_pl b0 (by decide)) (by decide)
      rw [gd_t (mg_n hm (by decide)), bd_s (plain8 (mg_fin hm (by decide))), pl_sub (mg_fin b2 (by decide)) (mg_fin b0 (by decide))]
/-- the opening stands where it is said to -/
theorem opn_at {q : Nat → Int32} {s : Nat → UInt64} : ∀ (D : List Nat) (k : Nat) (w : Int32) (b d : UInt64) (pos : Option (Nat × Nat)) (least : UInt64) (x : Nat × Nat), (opn q hf s D k w b d pos least).1 = some x → pos = some x ∨ (k ≤ x.1 ∧ D[x.1 - k]? = some x.2) := by
  intro D
  induction D with
  | nil => intro k w b d pos least x hx; exact Or.inl hx
  | cons e D ih =>
    intro k w b d pos least x hx
    unfold opn at hx
    rcases ih _ _ _ _ _ _ _ hx with h1 | ⟨h1, h2⟩
    · split at h1
      · cases h1; exact Or.inr ⟨Nat.le_refl _, by rw [Nat.sub_self]; rfl⟩
      · exact Or.inl h1
    · exact Or.inr ⟨by omega, by rw [show x.1 - k = (x.1 - (k + 1)) + 1 by omega]; exact h2⟩
theorem opS_at {q : Nat → Int32} {s : Nat → UInt64} (x : Nat × Nat) (h : (opS q hf s L th).1 = some x) : L[x.1]? = some x.2 := by
  rcases opn_at L 0 th _ _ none _ x h with h1 | ⟨_, h1⟩
  · cases h1
  · rw [Nat.sub_zero] at h1; exact h1
theorem opS_okG (hG : Gd n pl hf pw gl th sc ta) (hT : Tr n pl th sc L) : mg (opS pl hf (bs pw gl 1) L th).2 1400 := (opS_ok (hT.bends hG.pgs co1) (hT.small hG.1).2 (hT.small hG.1).1).1
theorem grasp6 (hG : Gd n pl hf pw gl th sc ta) (hT : Tr n pl th sc L) (N P H : Nat → Int32) (B : Nat → UInt64) : ∃ z, f_X6_grasp (ii n) th sc pl hf pw gl N P H B = some (pl_ (opS pl hf (bs pw gl 1) L th).2, z) := by
  have hsm := hT.small hG.1
  obtain ⟨N', P', H', B', h1, h2⟩ := gline hG co1 hT N P H B
  obtain ⟨z, h3⟩ := seek_sp (th := th) h2 (hT.bends hG.pgs co1) hsm.2 hsm.1
  unfold f_X6_grasp
  rw [bd_s h1, bd_s h3, bd_s (plain6 (mg_fin (opS_okG hG hT) (by decide)))]
  exact ⟨_, rfl⟩
theorem grasp8 (hG : Gd n pl hf pw gl th sc ta) (hT : Tr n pl th sc L) : f_X8_graspNow (ii n) th sc pl hf pw gl = some (pl_ (opS pl hf (bs pw gl 1) L th).2, (opS pl hf (bs pw gl 1) L th).2) := by
  unfold f_X8_graspNow
  rw [bd_s (open_sp hG.1 hG.pgs hG.halves hT), bd_s (plain8 (mg_fin (opS_okG hG hT) (by decide)))]
/-! the fan's calls -/
abbrev fanG (pl hf pw gl : Nat → Int32) (c th sc ta : Int32) (L : List Nat) : Nat → Ray1 := fan pl hf (bs pw gl c) sc L th (topOf ta)
theorem fanG_ok (hG : Gd n pl hf pw gl th sc ta) (hT : Tr n pl th sc L) (hc : co c) : Rok (fanG pl hf pw gl c th sc ta L) := fan_ok (hT.bends hG.pgs hc) (hT.small hG.1).1 (hT.small hG.1).2 hG.top
def blG (R : Nat → Ray1) : UInt64 := if cm R 21 = 0 then FP.dconst0 else spS R
theorem blG_ok {R : Nat → Ray1} (hR : Rok R) : ok (blG R) 1402 := by
  unfold blG
  split
  · exact ⟨mg_zero (by decide), nz_0⟩
  · rename_i h; exact (spS_ok hR h).1
theorem blur6 (hG : Gd n pl hf pw gl th sc ta) (hT : Tr n pl th sc L) (hc : co c) (N P H : Nat → Int32) (B : Nat → UInt64) (g g' rh ru : UInt64) (rc : Int32) (C : Nat → Int32) : ∃ z, f_X6_blur c (ii n) th sc ta pl hf pw gl N P H B g g' rh ru rc C = some (.inr (blG (fanG pl hf pw gl c th sc ta L), z)) := by
  have hsm := hT.small hG.1
  obtain ⟨N', P', H', B', h1, h2⟩ := gline hG hc hT N P H B
  obtain ⟨x1, x2, x3, x4, h3, h4⟩ := gsend (th := th) (sc := sc) hG.top h2 (hT.bends hG.pgs hc) hsm.1 hsm.2 g g' rh ru rc C
  have hR := fanG_ok hG hT hc
  unfold f_X6_blur
  rw [needColour6, if_pos (show (0 : Int32).toInt ≤ c.toInt ∧ c.toInt ≤ (2 : Int32).toInt from hc), bx_i, bd_s h1, bd_s h3, bd_s (spread_sp hR g g')]
  rw [bd_s (plain6 (a := if cm (fan pl hf (bs pw gl c) sc L th (topOf ta)) 21 = 0 then FP.dconst0 else spS (fan pl hf (bs pw gl c) sc L th (topOf ta))) (mg_fin (blG_ok hR).1 (by decide))), pl_nz (a := if cm (fan pl hf (bs pw gl c) sc L th (topOf ta)) 21 = 0 then FP.dconst0 else spS (fan pl hf (bs pw gl c) sc L th (topOf ta))) (blG_ok hR).2]
  exact ⟨_, rfl⟩
theorem m1_key : ky 13830554455654793216 < 0 := by decide +kernel
theorem m1_fin : FP.Core.DFin 13830554455654793216 := (FP.Core.fin_bits _).mpr (by decide)
theorem m1_ok : ok 13830554455654793216 1402 := okb_ok (by decide +kernel)
theorem blS_ok {R : Nat → Ray1} (hR : Rok R) : ok (blS R) 1402 := by
  unfold blS
  split
  · exact m1_ok
  · rename_i h; exact (spS_ok hR h).1
theorem blS_neg {R : Nat → Ray1} (hR : Rok R) : ky (blS R) < 0 ↔ cm R 21 = 0 := by
  unfold blS
  by_cases h : cm R 21 = 0
  · rw [if_pos h]; exact ⟨fun _ => h, fun _ => m1_key⟩
  · rw [if_neg h]; exact ⟨fun h9 => absurd h9 (spS_ok hR h).2, fun h9 => absurd h9 h⟩
theorem max_bl {R : Nat → Ray1} (hR : Rok R) : dmax FP.dconst0 (blS R) = blG R := by
  have h1 := blS_ok hR
  rw [dmax_k pf_zero.fin (mg_fin h1.1 (by decide)) nz_0 h1.2, ky_0]
  unfold blS blG
  by_cases h : cm R 21 = 0
  · rw [if_pos h, if_pos h, if_neg (by have := m1_key; omega)]
  · rw [if_neg h, if_neg h]
    have h2 := spS_ok hR h
    by_cases h3 : 0 < ky (spS R)
    · rw [if_pos h3]
    · rw [if_neg h3]
      exact ky_inj nz_0 h2.1.2 (by rw [ky_0]; omega)
theorem LM_blur (hG : Gd n pl hf pw gl th sc ta) (c t1 t2 t3 : Int32) (N P H : Nat → Int32) (B : Nat → UInt64) (f1 : Int32) (g g' rh ru : UInt64) (rc : Int32) (C : Nat → Int32) (o h0 u0 : UInt64) (c0 : Int32) : ∃ k x1 x2 x3 x4 x5 x6 x7 y1 y2 y3 y4 y5 y6 y7 o' v h' u' c', f_L_blur c (ii n) th sc ta pl hf pw gl t1 t2 t3 N P H B f1 g g' rh ru rc C o = some (k, x1, x2, x3, x4, x5, x6, x7, y1, y2, y3, y4, y5, y6, y7, o') ∧ f_X8_blur c (ii n) th sc ta h0 u0 c0 pl hf pw gl = some (v, k, h', u', c') ∧ (k = 0 → o' = v ∧ mg v 2000) := by
  obtain ⟨L, hT⟩ := ex_tr hG sc
  unfold f_L_blur f_X8_blur
  rw [is8]
  by_cases q3 : (0 : Int32).toInt ≤ c.toInt ∧ c.toInt ≤ (2 : Int32).toInt
  · rw [if_pos q3]
    obtain ⟨z, hz⟩ := blur6 hG hT (show co c from q3) N P H B g g' rh ru rc C
    obtain ⟨h', u', c', h8⟩ := blur_sp (hf := hf) hG.1 hG.pgs (show co c from q3) hT hG.top h0 u0 c0
    have hR := fanG_ok hG hT (show co c from q3)
    simp only [bd_i]
    rw [hz, if_neg (show ¬ (1 : Int32) = 0 by decide), bd_s h8, gd_t (by decide), gd_t (mg_n (blS_ok hR).1 (by decide)), max_bl hR]
    exact ⟨0, _, _, _, _, _, _, _, _, _, _, _, _, _, _, _, _, _, _, _, rfl, rfl, fun _ => ⟨rfl, mg_mono (blG_ok hR).1 (by decide)⟩⟩
  · rw [if_neg q3]
    refine ⟨1, t1, t2, t3, N, P, H, B, f1, g, g', rh, ru, rc, C, o, _, h0, u0, c0, ?_, rfl, fun h => absurd h (by decide)⟩
    unfold f_X6_blur
    rw [needColour6, if_neg q3]
    rfl
/-- without a piece -/
theorem qi_wo (hn : n ≤ 8) (hpl : ∀ i, i < n → 0 ≤ (pl i).toInt ∧ (pl i).toInt ≤ 99) (hth : 0 ≤ th.toInt) (hT : Tr n pl th sc L) (k : Nat) : Tr n (qi pl (ii k) (-1)) th sc (wo (ii k) L) := by
  have hm : ∀ i, i ∈ wo (ii k) L → qi pl (ii k) (-1) i = pl i := fun i hi => if_neg (by simpa using (List.mem_filter.mp hi).2)
  refine ⟨?_, fun i => ?_, Nat.le_trans (List.length_filter_le _ _) hT.2.2⟩
  · refine List.Pairwise.imp_of_mem ?_ (hT.1.sublist List.filter_sublist)
    intro x y hx hy h
    rw [hm x hx, hm y hy]
    exact h
  · constructor
    · intro hi
      rw [hm i hi]
      exact (hT.2.1 i).mp (List.mem_filter.mp hi).1
    · rintro ⟨h1, h2, h3⟩
      by_cases e : ii i = ii k
      · rw [show qi pl (ii k) (-1) i = -1 from if_pos e] at h2
        have : (-1 : Int32).toInt = -1 := by decide
        omega
      · rw [show qi pl (ii k) (-1) i = pl i from if_neg e] at h2 h3
        exact List.mem_filter.mpr ⟨(hT.2.1 i).mpr ⟨h1, h2, h3⟩, by simpa using e⟩
theorem rn_congr {q q' : Nat → Int32} {s : Nat → UInt64} : ∀ (D : List Nat) (k : Nat) (w : Int32) (h u : UInt64), (∀ d ∈ D, q' d = q d) → rn q' hf s sc D k w h u = rn q hf s sc D k w h u := by
  intro D
  induction D with
  | nil => intro k w h u _; rfl
  | cons d D ih =>
    intro k w h u e
    unfold rn
    rw [e d List.mem_cons_self, ih _ _ _ _ (fun x hx => e x (List.mem_cons_of_mem _ hx))]
theorem without6 (hG : Gd n pl hf pw gl th sc ta) (hT : Tr n pl th sc L) {k : Nat} (hk : k < n) (N P H : Nat → Int32) (B : Nat → UInt64) (g g' rh ru : UInt64) (rc : Int32) (C : Nat → Int32) : ∃ z, f_X6_without (ii k) (ii n) th sc ta pl hf pw gl N P H B g g' rh ru rc C = some (.inr (ii (cm (fanG pl hf pw gl 1 th sc ta (wo (ii k) L)) 21), z)) := by
  have hn := hG.1
  have hsep : ∀ i j, i < n → j < n → i ≠ j → (qi pl (ii k) (-1) i).toInt ≠ (qi pl (ii k) (-1) j).toInt := by
    intro i j hi hj hij
    have m1 : (-1 : Int32).toInt = -1 := by decide
    have p1 := hG.2.1 i hi
    have p2 := hG.2.1 j hj
    unfold qi
    by_cases e1 : ii i = ii k
    · rw [if_pos e1, if_neg (fun e2 => hij ((ii_eq (by omega) (by omega)).mp (e1.trans e2.symm)))]; omega
    · rw [if_neg e1]
      by_cases e2 : ii j = ii k
      · rw [if_pos e2]; omega
      · rw [if_neg e2]; exact hG.sep i j hi hj hij
  obtain ⟨L', N', P', H', B', h1, h2, h3⟩ := lineIf_sp (p := ii k) (a := (-1 : Int32)) (th := th) (sc := sc) (hf := hf) hn hG.pgs co1 hsep N P H B
  have e := Tr.uniq h2 (qi_wo hn hG.2.1 hG.2.2.2.2.2.1 hT k)
  subst e
  have hsm := h2.small hn
  obtain ⟨x1, x2, x3, x4, h4, h5⟩ := gsend (th := th) (sc := sc) hG.top h3 (h2.bends hG.pgs co1) hsm.1 hsm.2 g g' rh ru rc C
  have he : fan (qi pl (ii k) (-1)) hf (bs pw gl 1) sc (wo (ii k) L) th (topOf ta) = fanG pl hf pw gl 1 th sc ta (wo (ii k) L) := by
    funext i
    exact rn_congr _ _ _ _ _ (fun d hd => if_neg (by simpa using (List.mem_filter.mp hd).2))
  rw [he] at h4
  unfold f_X6_without
  rw [(needPiece6 hn (ii k)).1 ⟨by rw [ii_int (by omega)]; omega, by rw [ii_int (by omega)]; omega⟩, bx_i, bd_s h1, bd_s h4]
  exact ⟨_, rfl⟩
theorem LM_without (hG : Gd n pl hf pw gl th sc ta) (a t1 t2 t3 : Int32) (N P H : Nat → Int32) (B : Nat → UInt64) (f1 : Int32) (g g' rh ru : UInt64) (rc : Int32) (C : Nat → Int32) (o : Int64) (h0 u0 : UInt64) (c0 : Int32) : ∃ k x1 x2 x3 x4 x5 x6 x7 y1 y2 y3 y4 y5 y6 y7 o' v h' u' c', f_L_without a (ii n) th sc ta pl hf pw gl t1 t2 t3 N P H B f1 g g' rh ru rc C o = some (k, x1, x2, x3, x4, x5, x6, x7, y1, y2, y3, y4, y5, y6, y7, o') ∧ f_X8_without a (ii n) th sc ta h0 u0 c0 pl hf pw gl = some (v, k, h', u', c') ∧ (k = 0 → o' = v.toInt64) := by
  have hn := hG.1
  obtain ⟨L, hT⟩ := ex_tr hG sc
  unfold f_L_without f_X8_without f_X8_refuse
  by_cases q0 : isP n a
  · rw [(isPiece8 hn a).1 q0]
    obtain ⟨x, hx, rfl⟩ := isP_ii q0
    obtain ⟨z, hz⟩ := without6 hG hT hx N P H B g g' rh ru rc C
    obtain ⟨h', u', c', h8⟩ := light_sp (p := ii x) (hf := hf) hn hG.pgs hT hG.top h0 u0 c0
    simp only [bd_i]
    rw [hz, if_neg (show ¬ (1 : Int32) = 0 by decide), bd_s h8]
    exact ⟨0, _, _, _, _, _, _, _, _, _, _, _, _, _, _, _, _, _, _, _, rfl, rfl, fun _ => rfl⟩
  · rw [(isPiece8 hn a).2 q0]
    refine ⟨1, t1, t2, t3, N, P, H, B, f1, g, g', rh, ru, rc, C, o, 0, h0, u0, c0, ?_, rfl, fun h => absurd h (by decide)⟩
    unfold f_X6_without
    rw [(needPiece6 hn _).2 q0]
    rfl
/-- through a piece -/
def thS (pl : Nat → Int32) (R : Nat → Ray1) (L : List Nat) (k : Nat) : Int32 := if k ∈ L then ii (thr pl k R 21) else 0
theorem through6 (hG : Gd n pl hf pw gl th sc ta) (hT : Tr n pl th sc L) {k : Nat} (hk : k < n) (N P H : Nat → Int32) (B : Nat → UInt64) (f1 : Int32) (g g' rh ru : UInt64) (rc : Int32) (C : Nat → Int32) : ∃ z, f_X6_through (ii k) (ii n) th sc ta pl hf pw gl N P H B f1 g g' rh ru rc C = some (.inr (thS pl (fanG pl hf pw gl 1 th sc ta L) L k, z)) := by
  have hn := hG.1
  have hsm := hT.small hn
  obtain ⟨N', P', H', B', h1, h2⟩ := gline hG co1 hT N P H B
  unfold f_X6_through thS
  rw [(needPiece6 hn (ii k)).1 ⟨by rw [ii_int (by omega)]; omega, by rw [ii_int (by omega)]; omega⟩, bx_i, bd_s h1, bd_s (pos_sp (by omega) h2 hsm.1 hsm.2)]
  rcases ixo_sp k L 0 with ⟨h3, h4⟩ | ⟨j, h3, h4⟩
  · rw [h3, if_pos rfl, if_neg h4]; exact ⟨_, rfl⟩
  · have hj := (List.getElem?_eq_some_iff.mp h4).1
    rw [Nat.zero_add] at h3
    rw [h3, if_neg (ii_ne (by omega)), if_pos (List.mem_of_getElem? h4)]
    obtain ⟨x1, x2, x3, x4, h5, h6⟩ := gsend (th := th) (sc := sc) hG.top h2 (hT.bends hG.pgs co1) hsm.1 hsm.2 g g' rh ru rc C
    rw [bd_s h5, bd_s (passed_sp (by omega) h6)]
    have := thr_cl (hf := hf) (s := bs pw gl 1) (sc := sc) (th := th) (top := topOf ta) hT h4 21
    rw [show 21 - cl (fan pl hf (bs pw gl 1) sc L th (topOf ta)) (j + 1) 21 = thr pl k (fanG pl hf pw gl 1 th sc ta L) 21 by show _ = thr pl k (fan pl hf (bs pw gl 1) sc L th (topOf ta)) 21; omega]
    exact ⟨_, rfl⟩
theorem through8 (hG : Gd n pl hf pw gl th sc ta) (hT : Tr n pl th sc L) {k : Nat} (hk : k < n) (h0 u0 : UInt64) (c0 : Int32) : ∃ h' u' c', f_X8_throughNow (ii k) (ii n) th sc ta h0 u0 c0 pl hf pw gl = some (thS pl (fanG pl hf pw gl 1 th sc ta L) L k, h', u', c') := by
  have hn := hG.1
  unfold f_X8_throughNow thS
  rw [bd_s (ord_sp hn (show k < 8 by omega) hT)]
  rcases ixo_sp k L 0 with ⟨h3, h4⟩ | ⟨j, h3, h4⟩
  · rw [h3, if_pos rfl, if_neg h4]; exact ⟨_, _, _, rfl⟩
  · have hj := (List.getElem?_eq_some_iff.mp h4).1
    have := (hT.small hn).1
    rw [Nat.zero_add] at h3
    rw [h3, if_neg (ii_ne (by omega)), if_pos (List.mem_of_getElem? h4)]
    exact thr_lp (show k < 8 by omega) hn hG.pgs hT hG.top 21 0 h0 u0 c0 (by omega) 1000 (by omega)
theorem LM_through (hG : Gd n pl hf pw gl th sc ta) (a t1 t2 t3 : Int32) (N P H : Nat → Int32) (B : Nat → UInt64) (f1 : Int32) (g g' rh ru : UInt64) (rc : Int32) (C : Nat → Int32) (o : Int64) (h0 u0 : UInt64) (c0 : Int32) : ∃ k x1 x2 x3 x4 x5 x6 x7 y1 y2 y3 y4 y5 y6 y7 o' v h' u' c', f_L_through a (ii n) th sc ta pl hf pw gl t1 t2 t3 N P H B f1 g g' rh ru rc C o = some (k, x1, x2, x3, x4, x5, x6, x7, y1, y2, y3, y4, y5, y6, y7, o') ∧ f_X8_through a (ii n) th sc ta h0 u0 c0 pl hf pw gl = some (v, k, h', u', c') ∧ (k = 0 → o' = v.toInt64) := by
  have hn := hG.1
  obtain ⟨L, hT⟩ := ex_tr hG sc
  unfold f_L_through f_X8_through f_X8_refuse
  by_cases q0 : isP n a
  · rw [(isPiece8 hn a).1 q0]
    obtain ⟨x, hx, rfl⟩ := isP_ii q0
    obtain ⟨z, hz⟩ := through6 hG hT hx N P H B f1 g g' rh ru rc C
    obtain ⟨h', u', c', h8⟩ := through8 hG hT hx h0 u0 c0
    simp only [bd_i]
    rw [hz, if_neg (show ¬ (1 : Int32) = 0 by decide), bd_s h8]
    exact ⟨0, _, _, _, _, _, _, _, _, _, _, _, _, _, _, _, _, _, _, _, rfl, rfl, fun _ => rfl⟩
  · rw [(isPiece8 hn a).2 q0]
    refine ⟨1, t1, t2, t3, N, P, H, B, f1, g, g', rh, ru, rc, C, o, 0, h0, u0, c0, ?_, rfl, fun h => absurd h (by decide)⟩
    unfold f_X6_through
    rw [(needPiece6 hn _).2 q0]
    rfl
end PureAsk3
