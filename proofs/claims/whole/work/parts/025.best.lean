/-! PURE BEST. -/
section PureBest
variable {n : Nat} {pl hf pw gl : Nat → Int32} {th sc ta re c : Int32} {L : List Nat}
theorem upd_upd (A : Nat → Int32) (p : Nat) (x y : Int32) : upd (upd A p x) p y = upd A p y := by
  funext j
  unfold upd
  by_cases h : j = p
  · rw [if_pos h, if_pos h]
  · rw [if_neg h, if_neg h, if_neg h]
theorem upd_id (A : Nat → Int32) (p : Nat) : upd A p (A p) = A := by
  funext j
  unfold upd
  by_cases h : j = p
  · rw [if_pos h, h]
  · rw [if_neg h]
/-- another piece stands there -/
def skB (n : Nat) (pl : Nat → Int32) (p k : Nat) : Bool := (List.range n).any (fun i => decide (i ≠ p) && decide (pl i = ii k))
theorem skB_iff (p k : Nat) : skB n pl p k = true ↔ ∃ i, i < n ∧ i ≠ p ∧ pl i = ii k := by
  unfold skB
  rw [List.any_eq_true]
  constructor
  · rintro ⟨i, h1, h2⟩
    rw [Bool.and_eq_true, decide_eq_true_iff, decide_eq_true_iff] at h2
    exact ⟨i, List.mem_range.mp h1, h2.1, h2.2⟩
  · rintro ⟨i, h1, h2, h3⟩
    exact ⟨i, List.mem_range.mpr h1, by rw [Bool.and_eq_true, decide_eq_true_iff, decide_eq_true_iff]; exact ⟨h2, h3⟩⟩
theorem Gd.at_k (hG : Gd n pl hf pw gl th sc ta) {p k : Nat} (hp : p < n) (hk : k ≤ 99) (hs : ¬ skB n pl p k = true) : Gd n (upd pl p (ii k)) hf pw gl th sc ta :=
  hG.place hp ⟨by rw [ii_int (by omega)]; omega, by rw [ii_int (by omega)]; omega⟩ (fun i hi hne h => hs ((skB_iff p k).mpr ⟨i, hi, hne, h⟩))
theorem glineB {p k : Nat} (hp : p < n) (hG' : Gd n (upd pl p (ii k)) hf pw gl th sc ta) (hc : co c) (hT : Tr n (upd pl p (ii k)) th sc L) (N P H : Nat → Int32) (B : Nat → UInt64) : ∃ N' P' H' B', f_X6_lineUpIf c sc (ii p) (ii k) (ii n) th pl hf pw gl N P H B = some (ii L.length, th, sc, N', P', H', B') ∧ RI (upd pl p (ii k)) hf (bs pw gl c) N' P' H' B' L := by
  have hn := hG'.1
  have e : ∀ i, i < n → qi pl (ii p) (ii k) i = upd pl p (ii k) i := by
    intro i hi
    unfold qi upd
    by_cases h : i = p
    · rw [if_pos h, if_pos (by rw [h])]
    · rw [if_neg h, if_neg (fun h9 => h ((ii_eq (by omega) (by omega)).mp h9))]
  obtain ⟨L', N', P', H', B', h1, h2, h3⟩ := lineIf_sp (p := ii p) (a := ii k) (th := th) (sc := sc) (pl := pl) (hf := hf) hn hG'.pgs hc (fun i j hi hj hij => by rw [e i hi, e j hj]; exact hG'.sep i j hi hj hij) N P H B
  have e2 := Tr.uniq (h2.congr (fun i hi => (e i hi).symm)) hT
  subst e2
  refine ⟨N', P', H', B', h1, fun m d hk => ?_⟩
  obtain ⟨a1, a2, a3, a4⟩ := h3 m d hk
  rw [e d ((h2.2.1 d).mp (List.mem_of_getElem? hk)).1] at a2
  exact ⟨a1, a2, a3, a4⟩
noncomputable abbrev vBe (n : Nat) (pl hf pw gl : Nat → Int32) (c th sc ta : Int32) (p k : Nat) : UInt64 := blS (fanG (upd pl p (ii k)) hf pw gl c th sc ta (tl n (upd pl p (ii k)) th sc))
theorem ch_skip {V : Nat → UInt64} {sk : Nat → Bool} {j k : Nat} {b : Int32} {l : UInt64} (hs : sk k = true) : chf V sk (j + 1) k b l = chf V sk j (k + 1) b l := if_pos hs
theorem best6_lp (hG : Gd n pl hf pw gl th sc ta) (hc : co c) {p s0 : Nat} (hp : p < n) (hs0 : sc = ii s0) (h99 : s0 ≤ 99) : ∀ (j k : Nat), k + j = s0 → ∀ (t1 t2 t3 : Int32) (N P H : Nat → Int32) (B : Nat → UInt64) (f1 : Int32) (g g' rh ru : UInt64) (rc : Int32) (C : Nat → Int32) (b : Int32) (l : UInt64), mg l 1500 → ∀ fuel, j < fuel →
    ∃ z, lp (f_X6_best_b1 (ii p) c (ii n) th sc ta pl hf pw gl) fuel (ii k, t1, t2, t3, N, P, H, B, f1, g, g', rh, ru, rc, C, b, l) = some (.inr ((chf (vBe n pl hf pw gl c th sc ta p) (skB n pl p) j k b l).1, z)) := by
  have hn := hG.1
  intro j
  induction j with
  | zero =>
    intro k hk t1 t2 t3 N P H B f1 g g' rh ru rc C b l _ fuel hf9
    obtain ⟨f, rfl⟩ := Nat.exists_eq_succ_of_ne_zero (show fuel ≠ 0 by omega)
    rw [lp_st]
    generalize lp (f_X6_best_b1 (ii p) c (ii n) th sc ta pl hf pw gl) f = K
    unfold f_X6_best_b1
    rw [if_pos (show sc ≤ ii k by rw [hs0]; exact (ii_le (by omega) (by omega)).mpr (by omega))]
    exact ⟨_, rfl⟩
  | succ j ih =>
    intro k hk t1 t2 t3 N P H B f1 g g' rh ru rc C b l hl fuel hf9
    obtain ⟨f, rfl⟩ := Nat.exists_eq_succ_of_ne_zero (show fuel ≠ 0 by omega)
    obtain ⟨r, q1, q2⟩ := tk_sp (q := pl) hn (ii k) (ii p)
    by_cases hs : skB n pl p k = true
    · have ih := ih (k + 1) (by omega) t1 t2 t3 N P H B f1 g g' rh ru rc C b l hl f (by omega)
      rw [ch_skip hs]
      have hr : r = 1 := by
        rcases q2 with ⟨q3, q4⟩ | ⟨q3, q4⟩
        · obtain ⟨i, a1, a2, a3⟩ := (skB_iff p k).mp hs
          exact absurd a3 (q4 i a1 (fun h9 => a2 ((ii_eq (by omega) (by omega)).mp h9)))
        · exact q3
      rw [lp_st]
      generalize lp (f_X6_best_b1 (ii p) c (ii n) th sc ta pl hf pw gl) f = K at ih ⊢
      unfold f_X6_best_b1
      rw [if_neg (show ¬ sc ≤ ii k by rw [hs0]; exact fun h => absurd ((ii_le (by omega) (by omega)).mp h) (by omega)), bd_s q1, hr, if_neg (by decide), ii_s]
      exact ih
    · have hG' := hG.at_k hp (show k ≤ 99 by omega) hs
      have hT := tl_sp (ex_tr hG' sc)
      have hsm := hT.small hn
      obtain ⟨N', P', H', B', h1, h2⟩ := glineB hp hG' hc hT N P H B
      obtain ⟨x1, x2, x3, x4, h3, h4⟩ := gsend (th := th) (sc := sc) hG.top h2 (hT.bends hG.pgs hc) hsm.1 hsm.2 g g' rh ru rc C
      have hR : Rok (fanG (upd pl p (ii k)) hf pw gl c th sc ta (tl n (upd pl p (ii k)) th sc)) := fan_ok (hT.bends hG.pgs hc) hsm.1 hsm.2 hG.top
      have ih := fun t1 t2 t3 N P H B f1 g g' rh ru rc C => ih (k + 1) (by omega) t1 t2 t3 N P H B f1 g g' rh ru rc C (cst (vBe n pl hf pw gl c th sc ta p k) k b l).1 (cst (vBe n pl hf pw gl c th sc ta p k) k b l).2 (ch_mg (mg_mono (blS_ok hR).1 (by decide)) hl) f (by omega)
      rw [ch_step hs]
      have hr : r = 0 := by
        rcases q2 with ⟨q3, q4⟩ | ⟨q3, i, a1, a2, a3⟩
        · exact q3
        · exact absurd ((skB_iff p k).mpr ⟨i, a1, fun h9 => a2 (by rw [h9]), a3⟩) hs
      rw [lp_st]
      generalize lp (f_X6_best_b1 (ii p) c (ii n) th sc ta pl hf pw gl) f = K at ih ⊢
      unfold f_X6_best_b1
      rw [if_neg (show ¬ sc ≤ ii k by rw [hs0]; exact fun h => absurd ((ii_le (by omega) (by omega)).mp h) (by omega)), bd_s q1, hr, if_pos rfl, bd_s h1, bd_s h3, bd_s (offer_sp hR g g' k b hl), ii_s]
      exact ih _ _ _ _ _ _ _ _ _ _ _ _ _ _
theorem best8_lp (hG : Gd n pl hf pw gl th sc ta) (hc : co c) {p s0 : Nat} (hp : p < n) (hs0 : sc = ii s0) (h99 : s0 ≤ 99) : ∀ (j k : Nat), k + j = s0 → ∀ (h0 u0 : UInt64) (c0 b : Int32) (l : UInt64) (x : Int32), mg l 1500 → (x = pl p ∨ ∃ k', k' < k ∧ x = ii k') → ∀ fuel, j < fuel →
    ∃ h' u' c', lp (f_X8_best_b1 (ii p) c (ii n) th sc ta pl hf pw gl) fuel (ii k, l, b, h0, u0, c0, upd pl p x) = some ((chf (vBe n pl hf pw gl c th sc ta p) (skB n pl p) j k b l).1, 0, h', u', c', pl) := by
  have hn := hG.1
  have hv9 : vin (ii p) 8 = true := vin_ii (by omega) (by omega)
  intro j
  induction j with
  | zero =>
    intro k hk h0 u0 c0 b l x _ _ fuel hf9
    obtain ⟨f, rfl⟩ := Nat.exists_eq_succ_of_ne_zero (show fuel ≠ 0 by omega)
    rw [lp_st]
    generalize lp (f_X8_best_b1 (ii p) c (ii n) th sc ta pl hf pw gl) f = K
    unfold f_X8_best_b1
    rw [if_pos (show sc ≤ ii k by rw [hs0]; exact (ii_le (by omega) (by omega)).mpr (by omega)), gd_t hv9, ii_cl (show p < 100000 by omega), upd_upd, upd_id]
    exact ⟨_, _, _, rfl⟩
  | succ j ih =>
    intro k hk h0 u0 c0 b l x hl hx fuel hf9
    obtain ⟨f, rfl⟩ := Nat.exists_eq_succ_of_ne_zero (show fuel ≠ 0 by omega)
    obtain ⟨r, q1, q2⟩ := at_sp (q := upd pl p x) hn (ii k)
    have hxk : x = ii k → pl p = ii k := by
      intro h
      rcases hx with h1 | ⟨k', h1, h2⟩
      · rw [← h1]; exact h
      · rw [h2] at h
        have := (ii_eq (by omega) (by omega)).mp h
        omega
    by_cases hs : skB n pl p k = true
    · have ih := ih (k + 1) (by omega) h0 u0 c0 b l x hl (hx.imp id (fun ⟨k', h1, h2⟩ => ⟨k', by omega, h2⟩)) f (by omega)
      rw [ch_skip hs]
      obtain ⟨i, a1, a2, a3⟩ := (skB_iff p k).mp hs
      have hr : r ≠ -1 ∧ r ≠ ii p := by
        rcases q2 with ⟨q3, q4⟩ | ⟨m, q3, q4, q5⟩
        · exact absurd (by rw [upd_ne a2]; exact a3) (q4 i a1)
        · rw [q4]
          refine ⟨ii_ne (by omega), fun h9 => ?_⟩
          have e := (ii_eq (by omega) (by omega)).mp h9
          subst e
          rw [upd_at] at q5
          exact hG.sep i m a1 hp a2 (by rw [a3, hxk q5])
      rw [lp_st]
      generalize lp (f_X8_best_b1 (ii p) c (ii n) th sc ta pl hf pw gl) f = K at ih ⊢
      unfold f_X8_best_b1
      rw [if_neg (show ¬ sc ≤ ii k by rw [hs0]; exact fun h => absurd ((ii_le (by omega) (by omega)).mp h) (by omega)), bd_s q1, if_neg hr.1, if_neg hr.2, ii_s]
      exact ih
    · have hG' := hG.at_k hp (show k ≤ 99 by omega) hs
      have hT := tl_sp (ex_tr hG' sc)
      have hsm := hT.small hn
      have hR : Rok (fanG (upd pl p (ii k)) hf pw gl c th sc ta (tl n (upd pl p (ii k)) th sc)) := fan_ok (hT.bends hG.pgs hc) hsm.1 hsm.2 hG.top
      obtain ⟨h', u', c', h1⟩ := blur_sp (hf := hf) hn hG.pgs hc hT hG.top h0 u0 c0
      have hv := (blS_ok hR).1
      have ih := fun h0 u0 c0 => ih (k + 1) (by omega) h0 u0 c0 (cst (vBe n pl hf pw gl c th sc ta p k) k b l).1 (cst (vBe n pl hf pw gl c th sc ta p k) k b l).2 (ii k) (ch_mg (mg_mono hv (by decide)) hl) (Or.inr ⟨k, by omega, rfl⟩) f (by omega)
      rw [ch_step hs]
      have hr : r = -1 ∨ r = ii p := by
        rcases q2 with ⟨q3, q4⟩ | ⟨m, q3, q4, q5⟩
        · exact Or.inl q3
        · refine Or.inr (q4.trans ?_)
          refine Decidable.byContradiction fun hne => ?_
          have hm : m ≠ p := fun h9 => hne (by rw [h9])
          rw [upd_ne hm] at q5
          exact hs ((skB_iff p k).mpr ⟨m, q3, hm, q5⟩)
      rw [lp_st]
      generalize lp (f_X8_best_b1 (ii p) c (ii n) th sc ta pl hf pw gl) f = K at ih ⊢
      unfold f_X8_best_b1
      rw [if_neg (show ¬ sc ≤ ii k by rw [hs0]; exact fun h => absurd ((ii_le (by omega) (by omega)).mp h) (by omega)), bd_s q1]
      simp only [gd_t hv9, ii_cl (show p < 100000 by omega), upd_upd, bd_s h1, ii_s]
      generalize hV : vBe n pl hf pw gl c th sc ta p k = v at ih ⊢
      rw [show blS (fan (upd pl p (ii k)) hf (bs pw gl c) sc (tl n (upd pl p (ii k)) th sc) th (topOf ta)) = v from hV]
      have hvv : mg v 1402 := by rw [← hV]; exact hv
      unfold cst at ih ⊢
      rw [ky_cmp (mg_fin hvv (by decide)) pf_zero.fin, ky_cmp (mg_fin hvv (by decide)) (mg_fin hl (by decide)), ky_0]
      have fin : ∃ h'_1 u'_1 c'_1, (if Op.cmpValue (some (compare (ky v) 0)) CmpOp.g < 0 then K (ii (k + 1), l, b, h', u', c', upd pl p (ii k)) else if b = -1 then K (ii (k + 1), v, ii k, h', u', c', upd pl p (ii k)) else if Op.cmpValue (some (compare (ky v) (ky l))) CmpOp.l < 0 then K (ii (k + 1), v, ii k, h', u', c', upd pl p (ii k)) else K (ii (k + 1), l, b, h', u', c', upd pl p (ii k))) = some ((chf (vBe n pl hf pw gl c th sc ta p) (skB n pl p) j (k + 1) (if ky v < 0 then (b, l) else if b = -1 ∨ ky v < ky l then (ii k, v) else (b, l)).1 (if ky v < 0 then (b, l) else if b = -1 ∨ ky v < ky l then (ii k, v) else (b, l)).2).1, (0 : Int32), h'_1, u'_1, c'_1, pl) := by
        by_cases q1 : ky v < 0
        · rw [if_pos ((cv_lt _ _ _).mpr q1)]
          rw [if_pos q1] at ih ⊢
          exact ih _ _ _
        · rw [if_neg (fun h9 => q1 ((cv_lt _ _ _).mp h9))]
          rw [if_neg q1] at ih ⊢
          by_cases e : b = -1
          · rw [if_pos e]
            rw [if_pos (Or.inl e)] at ih ⊢
            exact ih _ _ _
          · rw [if_neg e]
            by_cases q2 : ky v < ky l
            · rw [if_pos ((cv_lt _ _ _).mpr q2)]
              rw [if_pos (Or.inr q2)] at ih ⊢
              exact ih _ _ _
            · rw [if_neg (fun h9 => q2 ((cv_lt _ _ _).mp h9))]
              rw [if_neg (fun h9 => h9.elim e q2)] at ih ⊢
              exact ih _ _ _
      rcases hr with hr | hr
      · rw [if_pos hr]; exact fin
      · rw [if_neg (by rw [hr]; exact ii_ne (by omega)), if_pos hr]; exact fin
/-- the best place -/
noncomputable def beS (n : Nat) (pl hf pw gl : Nat → Int32) (th sc ta c : Int32) (p : Nat) : Int32 := (chf (vBe n pl hf pw gl c th sc ta p) (skB n pl p) (sc.toInt.toNat - (th.toInt.toNat + 1)) (th.toInt.toNat + 1) (-1) FP.dconst0).1
theorem asii {x : Int32} (h1 : 0 ≤ x.toInt) (h2 : x.toInt ≤ 99) : x = ii x.toInt.toNat := by
  refine Int32.toInt_inj.mp ?_
  rw [ii_int (by omega)]
  omega
theorem LM_best (hG : Gd n pl hf pw gl th sc ta) (a c t1 t2 t3 : Int32) (N P H : Nat → Int32) (B : Nat → UInt64) (f1 : Int32) (g g' rh ru : UInt64) (rc : Int32) (C : Nat → Int32) (e1 : Int32) (e2 : UInt64) (o : Int64) (h0 u0 : UInt64) (c0 : Int32) : ∃ k x1 x2 x3 x4 x5 x6 x7 y1 y2 y3 y4 y5 y6 y7 z1 z2 o' v h' u' c', f_L_best a c (ii n) th sc ta pl hf pw gl t1 t2 t3 N P H B f1 g g' rh ru rc C e1 e2 o = some (k, x1, x2, x3, x4, x5, x6, x7, y1, y2, y3, y4, y5, y6, y7, z1, z2, o') ∧ f_X8_best a c (ii n) th sc ta h0 u0 c0 pl hf pw gl = some (v, k, h', u', c', pl) ∧ (k = 0 → o' = v.toInt64) := by
  have hn := hG.1
  unfold f_L_best f_X8_best f_X8_refuse
  by_cases q0 : isP n a
  · rw [(isPiece8 hn a).1 q0]
    obtain ⟨p, hp, rfl⟩ := isP_ii q0
    simp only [bd_i]
    rw [if_neg (show ¬ (1 : Int32) = 0 by decide), is8]
    by_cases q3 : (0 : Int32).toInt ≤ c.toInt ∧ c.toInt ≤ (2 : Int32).toInt
    · rw [if_pos q3]
      obtain ⟨a1, a2, a3, a4, a5, a6, a7, a8, a9⟩ := id hG
      have hv9 : vin (ii p) 8 = true := vin_ii (by omega) (by omega)
      obtain ⟨z, hz⟩ := best6_lp hG (show co c from q3) hp (asii (by omega) a8) (by omega) (sc.toInt.toNat - (th.toInt.toNat + 1)) (th.toInt.toNat + 1) (by omega) t1 t2 t3 N P H B f1 g g' rh ru rc C (-1) FP.dconst0 (mg_zero (by decide)) 1000 (by omega)
      obtain ⟨h', u', c', h8⟩ := best8_lp hG (show co c from q3) hp (asii (by omega) a8) (by omega) (sc.toInt.toNat - (th.toInt.toNat + 1)) (th.toInt.toNat + 1) (by omega) h0 u0 c0 (-1) FP.dconst0 (pl p) (mg_zero (by decide)) (Or.inl rfl) 1000 (by omega)
      rw [upd_id] at h8
      have h6 : f_X6_best (ii p) c (ii n) th sc ta pl hf pw gl t1 t2 t3 N P H B f1 g g' rh ru rc C = some (.inr (beS n pl hf pw gl th sc ta c p, z)) := by
        unfold f_X6_best f_X0_clear
        rw [(needPiece6 hn _).1 q0, needColour6, if_pos q3]
        simp only [bx_i, bd_i]
        rw [plus1 a6 (by omega)]
        exact hz
      rw [h6]
      simp only [bd_i]
      rw [if_neg (show ¬ (1 : Int32) = 0 by decide), gd_t hv9, plus1 a6 (by omega), h8]
      exact ⟨0, _, _, _, _, _, _, _, _, _, _, _, _, _, _, _, _, _, _, _, _, _, rfl, rfl, fun _ => rfl⟩
    · rw [if_neg q3]
      refine ⟨2, t1, t2, t3, N, P, H, B, f1, g, g', rh, ru, rc, C, e1, e2, o, 0, h0, u0, c0, ?_, rfl, fun h => absurd h (by decide)⟩
      unfold f_X6_best
      rw [(needPiece6 hn _).1 q0, needColour6, if_neg q3]
      rfl
  · rw [(isPiece8 hn a).2 q0]
    refine ⟨1, t1, t2, t3, N, P, H, B, f1, g, g', rh, ru, rc, C, e1, e2, o, 0, h0, u0, c0, ?_, rfl, fun h => absurd h (by decide)⟩
    unfold f_X6_best
    rw [(needPiece6 hn _).2 q0]
    rfl
end PureBest
