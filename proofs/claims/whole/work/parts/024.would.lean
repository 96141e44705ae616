/-! PURE WOULD BE: the sharpest and the best place. -/
section PureWould
variable {n : Nat} {pl hf pw gl : Nat → Int32} {th sc ta re c : Int32} {L : List Nat}
noncomputable def tl (n : Nat) (q : Nat → Int32) (lo hi : Int32) : List Nat := Classical.epsilon (Tr n q lo hi)
theorem tl_sp {q : Nat → Int32} {lo hi : Int32} (h : ∃ L, Tr n q lo hi L) : Tr n q lo hi (tl n q lo hi) := Classical.epsilon_spec h
/-- a choice over places k, k + 1, .. (j of them): V the blur there, sk what is passed over -/
def chf (V : Nat → UInt64) (sk : Nat → Bool) : Nat → Nat → Int32 → UInt64 → Int32 × UInt64
  | 0, _, b, l => (b, l)
  | j + 1, k, b, l => if sk k = true then chf V sk j (k + 1) b l else if ky (V k) < 0 then chf V sk j (k + 1) b l else if b = -1 ∨ ky (V k) < ky l then chf V sk j (k + 1) (ii k) (V k) else chf V sk j (k + 1) b l
/-- one candidate more -/
def cst (v : UInt64) (k : Nat) (b : Int32) (l : UInt64) : Int32 × UInt64 := if ky v < 0 then (b, l) else if b = -1 ∨ ky v < ky l then (ii k, v) else (b, l)
theorem offer_sp {R : Nat → Ray1} (hR : Rok R) (g g' : UInt64) (k : Nat) (b : Int32) {l : UInt64} (hl : mg l 1500) : f_X0_offer (ii k) b l (ii (cm R 21)) (lo_ R g 21) (hi_ R g' 21) = some (cst (blS R) k b l) := by
  unfold f_X0_offer cst
  rw [bd_s (spread_sp hR g g')]
  by_cases h : cm R 21 = 0
  · rw [if_pos (show ii (cm R 21) = 0 by rw [h]; rfl), if_pos ((blS_neg hR).mpr h)]
  · have hne : ¬ ii (cm R 21) = 0 := fun h9 => h ((ii_eq (b := 0) (by have := cm_le R 21; omega) (by omega)).mp h9)
    have hs := spS_ok hR h
    rw [if_neg hne, if_neg (fun h9 => h ((blS_neg hR).mp h9)), if_neg h, show blS R = spS R from if_neg h]
    by_cases e : b = -1
    · rw [if_pos e, if_pos (Or.inl e)]
    · rw [if_neg e, ky_cmp (mg_fin hs.1.1 (by decide)) (mg_fin hl (by decide))]
      by_cases h2 : ky (spS R) < ky l
      · rw [if_neg (fun h9 => (cv_ge _ _ _).mp h9 h2), if_pos (Or.inr h2)]
      · rw [if_pos ((cv_ge _ _ _).mpr h2), if_neg (fun h9 => h9.elim e h2)]
/-- the train if the screen stood at w -/
theorem glineS (hG : Gd n pl hf pw gl th sc ta) (hc : co c) {w : Int32} (hT : Tr n pl th w L) (N P H : Nat → Int32) (B : Nat → UInt64) : ∃ N' P' H' B', f_X6_lineUpIf c w (-1) (-1) (ii n) th pl hf pw gl N P H B = some (ii L.length, th, w, N', P', H', B') ∧ RI pl hf (bs pw gl c) N' P' H' B' L := by
  have hn := hG.1
  obtain ⟨L', N', P', H', B', h1, h2, h3⟩ := lineIf_sp (p := (-1 : Int32)) (a := (-1 : Int32)) (th := th) (sc := w) (pl := pl) (hf := hf) hn hG.pgs hc (fun i j hi hj hij => by rw [qi_no _ _ (by omega), qi_no _ _ (by omega)]; exact hG.sep i j hi hj hij) N P H B
  have e := Tr.uniq (h2.congr (fun i hi => (qi_no pl (-1) (show i < 100000 by omega)).symm)) hT
  subst e
  refine ⟨N', P', H', B', h1, fun k d hk => ?_⟩
  obtain ⟨a1, a2, a3, a4⟩ := h3 k d hk
  have hd := ((h2.2.1 d).mp (List.mem_of_getElem? hk)).1
  rw [qi_no _ _ (by omega)] at a2
  exact ⟨a1, a2, a3, a4⟩
noncomputable abbrev vSh (n : Nat) (pl hf pw gl : Nat → Int32) (c th ta : Int32) (k : Nat) : UInt64 := blS (fanG pl hf pw gl c th (ii k) ta (tl n pl th (ii k)))
theorem ch_step {V : Nat → UInt64} {sk : Nat → Bool} {j k : Nat} {b : Int32} {l : UInt64} (hs : ¬ sk k = true) : chf V sk (j + 1) k b l = chf V sk j (k + 1) (cst (V k) k b l).1 (cst (V k) k b l).2 := by
  unfold cst
  show (if sk k = true then _ else _) = _
  rw [if_neg hs]
  by_cases h1 : ky (V k) < 0
  · rw [if_pos h1, if_pos h1]
  · rw [if_neg h1, if_neg h1]
    by_cases h2 : b = -1 ∨ ky (V k) < ky l
    · rw [if_pos h2, if_pos h2]
    · rw [if_neg h2, if_neg h2]
theorem ch_mg {v l : UInt64} {b : Int32} {k : Nat} (hv : mg v 1500) (hl : mg l 1500) : mg (cst v k b l).2 1500 := by
  unfold cst
  split
  · exact hl
  · split
    · exact hv
    · exact hl
theorem sharp6_lp (hG : Gd n pl hf pw gl th sc ta) (hc : co c) : ∀ (j k : Nat), k + j = 100 → ∀ (t1 t2 t3 : Int32) (N P H : Nat → Int32) (B : Nat → UInt64) (f1 : Int32) (g g' rh ru : UInt64) (rc : Int32) (C : Nat → Int32) (b : Int32) (l : UInt64), mg l 1500 → ∀ fuel, j < fuel →
    ∃ z, lp (f_X6_sharp_b1 c (ii n) th ta pl hf pw gl) fuel (ii k, t1, t2, t3, N, P, H, B, f1, g, g', rh, ru, rc, C, b, l) = some (.inr ((chf (vSh n pl hf pw gl c th ta) (fun _ => false) j k b l).1, z)) := by
  intro j
  induction j with
  | zero =>
    intro k hk t1 t2 t3 N P H B f1 g g' rh ru rc C b l _ fuel hf9
    obtain ⟨f, rfl⟩ := Nat.exists_eq_succ_of_ne_zero (show fuel ≠ 0 by omega)
    rw [lp_st]
    generalize lp (f_X6_sharp_b1 c (ii n) th ta pl hf pw gl) f = K
    unfold f_X6_sharp_b1
    rw [if_pos (show (99 : Int32) < ii k from (ii_lt (a := 99) (by omega) (by omega)).mpr (by omega))]
    exact ⟨_, rfl⟩
  | succ j ih =>
    intro k hk t1 t2 t3 N P H B f1 g g' rh ru rc C b l hl fuel hf9
    obtain ⟨f, rfl⟩ := Nat.exists_eq_succ_of_ne_zero (show fuel ≠ 0 by omega)
    have hT := tl_sp (ex_tr hG (ii k))
    have hsm := hT.small hG.1
    obtain ⟨N', P', H', B', h1, h2⟩ := glineS hG hc hT N P H B
    obtain ⟨x1, x2, x3, x4, h3, h4⟩ := gsend (th := th) (sc := ii k) hG.top h2 (hT.bends hG.pgs hc) hsm.1 hsm.2 g g' rh ru rc C
    have hR : Rok (fanG pl hf pw gl c th (ii k) ta (tl n pl th (ii k))) := fan_ok (hT.bends hG.pgs hc) hsm.1 hsm.2 hG.top
    have ih := fun t1 t2 t3 N P H B f1 g g' rh ru rc C => ih (k + 1) (by omega) t1 t2 t3 N P H B f1 g g' rh ru rc C (cst (vSh n pl hf pw gl c th ta k) k b l).1 (cst (vSh n pl hf pw gl c th ta k) k b l).2 (ch_mg (v := vSh n pl hf pw gl c th ta k) (b := b) (k := k) (mg_mono (blS_ok hR).1 (by decide)) hl) f (by omega)
    rw [ch_step (show ¬ (fun _ : Nat => false) k = true from Bool.false_ne_true)]
    rw [lp_st]
    generalize lp (f_X6_sharp_b1 c (ii n) th ta pl hf pw gl) f = K at ih ⊢
    unfold f_X6_sharp_b1
    rw [if_neg (show ¬ (99 : Int32) < ii k from fun h => absurd ((ii_lt (a := 99) (by omega) (by omega)).mp h) (by omega)), bd_s h1, bd_s h3, bd_s (offer_sp hR g g' k b hl), ii_s]
    exact ih _ _ _ _ _ _ _ _ _ _ _ _ _ _
theorem sharp8_lp (hG : Gd n pl hf pw gl th sc ta) (hc : co c) : ∀ (j k : Nat), k + j = 100 → ∀ (s9 : Int32) (h0 u0 : UInt64) (c0 b : Int32) (l : UInt64), mg l 1500 → ∀ fuel, j < fuel →
    ∃ h' u' c', lp (f_X8_sharpNow_b1 c (ii n) th ta pl hf pw gl) fuel (ii k, l, b, s9, h0, u0, c0) = some ((chf (vSh n pl hf pw gl c th ta) (fun _ => false) j k b l).1, h', u', c') := by
  intro j
  induction j with
  | zero =>
    intro k hk s9 h0 u0 c0 b l _ fuel hf9
    obtain ⟨f, rfl⟩ := Nat.exists_eq_succ_of_ne_zero (show fuel ≠ 0 by omega)
    rw [lp_st]
    generalize lp (f_X8_sharpNow_b1 c (ii n) th ta pl hf pw gl) f = K
    unfold f_X8_sharpNow_b1
    rw [if_pos (show (100 : Int32) ≤ ii k from (ii_le (a := 100) (by omega) (by omega)).mpr (by omega))]
    exact ⟨_, _, _, rfl⟩
  | succ j ih =>
    intro k hk s9 h0 u0 c0 b l hl fuel hf9
    obtain ⟨f, rfl⟩ := Nat.exists_eq_succ_of_ne_zero (show fuel ≠ 0 by omega)
    have hT := tl_sp (ex_tr hG (ii k))
    have hsm := hT.small hG.1
    have hR : Rok (fanG pl hf pw gl c th (ii k) ta (tl n pl th (ii k))) := fan_ok (hT.bends hG.pgs hc) hsm.1 hsm.2 hG.top
    obtain ⟨h', u', c', h1⟩ := blur_sp (hf := hf) hG.1 hG.pgs hc hT hG.top h0 u0 c0
    have hv := (blS_ok hR).1
    have ih := fun s9 h0 u0 c0 => ih (k + 1) (by omega) s9 h0 u0 c0 (cst (vSh n pl hf pw gl c th ta k) k b l).1 (cst (vSh n pl hf pw gl c th ta k) k b l).2 (ch_mg (v := vSh n pl hf pw gl c th ta k) (b := b) (k := k) (mg_mono hv (by decide)) hl) f (by omega)
    rw [ch_step (show ¬ (fun _ : Nat => false) k = true from Bool.false_ne_true)]
    rw [lp_st]
    generalize lp (f_X8_sharpNow_b1 c (ii n) th ta pl hf pw gl) f = K at ih ⊢
    unfold f_X8_sharpNow_b1
    rw [if_neg (show ¬ (100 : Int32) ≤ ii k from fun h => absurd ((ii_le (a := 100) (by omega) (by omega)).mp h) (by omega)), bd_s h1]
    simp only [ii_s]
    generalize hV : vSh n pl hf pw gl c th ta k = v at ih ⊢
    rw [show blS (fan pl hf (bs pw gl c) (ii k) (tl n pl th (ii k)) th (topOf ta)) = v from hV]
    have hvv : mg v 1402 := by rw [← hV]; exact hv
    unfold cst at ih ⊢
    rw [ky_cmp (mg_fin hvv (by decide)) pf_zero.fin, ky_cmp (mg_fin hvv (by decide)) (mg_fin hl (by decide)), ky_0]
    by_cases q1 : ky v < 0
    · rw [if_pos ((cv_lt _ _ _).mpr q1)]
      rw [if_pos q1] at ih ⊢
      exact ih _ _ _ _
    · rw [if_neg (fun h9 => q1 ((cv_lt _ _ _).mp h9))]
      rw [if_neg q1] at ih ⊢
      by_cases e : b = -1
      · rw [if_pos e]
        rw [if_pos (Or.inl e)] at ih ⊢
        exact ih _ _ _ _
      · rw [if_neg e]
        by_cases q2 : ky v < ky l
        · rw [if_pos ((cv_lt _ _ _).mpr q2)]
          rw [if_pos (Or.inr q2)] at ih ⊢
          exact ih _ _ _ _
        · rw [if_neg (fun h9 => q2 ((cv_lt _ _ _).mp h9))]
          rw [if_neg (fun h9 => h9.elim e q2)] at ih ⊢
          exact ih _ _ _ _
/-- the sharpest place -/
noncomputable def shS (n : Nat) (pl hf pw gl : Nat → Int32) (th ta c : Int32) (L : List Nat) : Int32 := (chf (vSh n pl hf pw gl c th ta) (fun _ => false) (100 - ((lsp pl L th).toInt.toNat + 1)) ((lsp pl L th).toInt.toNat + 1) (-1) FP.dconst0).1
theorem plus1 {x : Int32} (h1 : 0 ≤ x.toInt) (h2 : x.toInt ≤ 99) : x + 1 = ii (x.toInt.toNat + 1) := by
  rw [← ii_s]
  congr 1
  refine Int32.toInt_inj.mp ?_
  rw [ii_int (by omega)]
  omega
theorem last_in (hG : Gd n pl hf pw gl th sc ta) (hT : Tr n pl th sc L) : 0 ≤ (lsp pl L th).toInt ∧ (lsp pl L th).toInt ≤ 99 := lsp_in hG.2.1 L th (fun d hd => ((hT.2.1 d).mp hd).1) (by obtain ⟨_, _, _, _, _, a1, a2, a3, _⟩ := hG; omega)
theorem sharp6 (hG : Gd n pl hf pw gl th sc ta) (hT : Tr n pl th sc L) (hc : co c) (N P H : Nat → Int32) (B : Nat → UInt64) (f1 : Int32) (g g' rh ru : UInt64) (rc : Int32) (C : Nat → Int32) : ∃ z, f_X6_sharp c (ii n) th sc ta pl hf pw gl N P H B f1 g g' rh ru rc C = some (.inr (shS n pl hf pw gl th ta c L, z)) := by
  have hsm := hT.small hG.1
  obtain ⟨N', P', H', B', h1, h2⟩ := gline hG hc hT N P H B
  have hl := last_in hG hT
  unfold f_X6_sharp
  rw [needColour6, if_pos (show (0 : Int32).toInt ≤ c.toInt ∧ c.toInt ≤ (2 : Int32).toInt from hc), bx_i, bd_s h1, bd_s (last_sp h2 hsm.1), plus1 hl.1 hl.2]
  exact sharp6_lp hG hc _ _ (by omega) _ _ _ _ _ _ _ _ _ _ _ _ _ _ _ _ (mg_zero (by decide)) 1000 (by omega)
theorem sharp8 (hG : Gd n pl hf pw gl th sc ta) (hT : Tr n pl th sc L) (hc : co c) (h0 u0 : UInt64) (c0 : Int32) : ∃ h' u' c', f_X8_sharpNow c (ii n) th sc ta re h0 u0 c0 pl hf pw gl = some (shS n pl hf pw gl th ta c L, h', u', c') := by
  have hl := last_in hG hT
  obtain ⟨h', u', c', h8⟩ := many8 (re := re) hG hT 8 h0 u0 c0
  unfold f_X8_sharpNow
  rw [bd_s h8, show maS n pl hf pw gl th sc ta re L 8 = lsp pl L th from rfl, plus1 hl.1 hl.2]
  exact sharp8_lp hG hc _ _ (by omega) _ _ _ _ _ _ (mg_zero (by decide)) 1000 (by omega)
theorem LM_sharp (hG : Gd n pl hf pw gl th sc ta) (c t1 t2 t3 : Int32) (N P H : Nat → Int32) (B : Nat → UInt64) (f1 : Int32) (g g' rh ru : UInt64) (rc : Int32) (C : Nat → Int32) (e1 : Int32) (e2 : UInt64) (o : Int64) (h0 u0 : UInt64) (c0 : Int32) : ∃ k x1 x2 x3 x4 x5 x6 x7 y1 y2 y3 y4 y5 y6 y7 z1 z2 o' v h' u' c', f_L_sharp c (ii n) th sc ta pl hf pw gl t1 t2 t3 N P H B f1 g g' rh ru rc C e1 e2 o = some (k, x1, x2, x3, x4, x5, x6, x7, y1, y2, y3, y4, y5, y6, y7, z1, z2, o') ∧ f_X8_sharp c (ii n) th sc ta re h0 u0 c0 pl hf pw gl = some (v, k, h', u', c') ∧ (k = 0 → o' = v.toInt64) := by
  obtain ⟨L, hT⟩ := ex_tr hG sc
  unfold f_L_sharp f_X8_sharp f_X8_refuse
  rw [is8]
  by_cases q3 : (0 : Int32).toInt ≤ c.toInt ∧ c.toInt ≤ (2 : Int32).toInt
  · rw [if_pos q3]
    obtain ⟨z, hz⟩ := sharp6 hG hT (show co c from q3) N P H B f1 g g' rh ru rc C
    obtain ⟨h', u', c', h8⟩ := sharp8 (re := re) hG hT (show co c from q3) h0 u0 c0
    simp only [bd_i]
    rw [hz, if_neg (show ¬ (1 : Int32) = 0 by decide), bd_s h8]
    exact ⟨0, _, _, _, _, _, _, _, _, _, _, _, _, _, _, _, _, _, _, _, _, _, rfl, rfl, fun _ => rfl⟩
  · rw [if_neg q3]
    refine ⟨1, t1, t2, t3, N, P, H, B, f1, g, g', rh, ru, rc, C, e1, e2, o, 0, h0, u0, c0, ?_, rfl, fun h => absurd h (by decide)⟩
    unfold f_X6_sharp
    rw [needColour6, if_neg q3]
    rfl
end PureWould
