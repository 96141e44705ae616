/-! PURE ASKING, first part: what stands, strength, ray, table, image, opening. -/
section PureAsk
variable {n : Nat} {pl hf pw gl : Nat → Int32} {th sc ta c : Int32} {L : List Nat}
theorem Gd.pgs (hG : Gd n pl hf pw gl th sc ta) : ∀ i, i < n → pg (pw i) (gl i) := hG.2.2.2.2.1
theorem Gd.sep (hG : Gd n pl hf pw gl th sc ta) : ∀ i j, i < n → j < n → i ≠ j → (pl i).toInt ≠ (pl j).toInt := hG.2.2.1
theorem Gd.halves (hG : Gd n pl hf pw gl th sc ta) : ∀ i, i < n → hf i ≠ 0 := fun i hi h => by
  have := (hG.2.2.2.1 i hi).1
  rw [h] at this
  exact absurd this (by decide)
theorem Gd.top (hG : Gd n pl hf pw gl th sc ta) : ok (topOf ta) 1031 := top_ok hG.2.2.2.2.2.2.2.2.1 hG.2.2.2.2.2.2.2.2.2
theorem Tr.small {q : Nat → Int32} {lo hi : Int32} (hn : n ≤ 8) (hT : Tr n q lo hi L) : L.length ≤ 8 ∧ ∀ d ∈ L, d < 8 := ⟨Nat.le_trans hT.2.2 hn, fun d hd => Nat.lt_of_lt_of_le ((hT.2.1 d).mp hd).1 hn⟩
theorem Tr.bends {q : Nat → Int32} {lo hi : Int32} (hp : ∀ i, i < n → pg (pw i) (gl i)) (hc : co c) (hT : Tr n q lo hi L) : ∀ d ∈ L, mg (bs pw gl c d) 1024 := fun d hd => bv_mg (hp d ((hT.2.1 d).mp hd).1) hc
theorem gline (hG : Gd n pl hf pw gl th sc ta) (hc : co c) {w : Int32} (hT : Tr n pl th w L) (N P H : Nat → Int32) (B : Nat → UInt64) : ∃ N' P' H' B', f_X6_lineUp c (ii n) th w pl hf pw gl N P H B = some (ii L.length, th, w, N', P', H', B') ∧ RI pl hf (bs pw gl c) N' P' H' B' L := by
  obtain ⟨L', N', P', H', B', h1, h2, h3⟩ := line_sp (th := th) (sc := w) (hf := hf) hG.1 hG.pgs hc hG.sep N P H B
  have e := Tr.uniq h2 hT
  subst e
  exact ⟨N', P', H', B', h1, h3⟩
theorem ex_tr (hG : Gd n pl hf pw gl th sc ta) (w : Int32) : ∃ L, Tr n pl th w L := by
  obtain ⟨L', N', P', H', B', h1, h2, h3⟩ := line_sp (th := th) (sc := w) (hf := hf) (c := 1) hG.1 hG.pgs (by unfold co; decide) hG.sep (fun _ => 0) (fun _ => 0) (fun _ => 0) (fun _ => 0)
  exact ⟨L', h2⟩
theorem co0 : co 0 := by unfold co; decide
theorem co1 : co 1 := by unfold co; decide
theorem co2 : co 2 := by unfold co; decide
/-- the fan is sent -/
theorem gsend {q : Nat → Int32} {s : Nat → UInt64} {N P H : Nat → Int32} {B : Nat → UInt64} (ht : ok (topOf ta) 1031) (hR : RI q hf s N P H B L) (hs : ∀ d ∈ L, mg (s d) 1024) (hk : L.length ≤ 8) (h8 : ∀ d ∈ L, d < 8) (g g' rh ru : UInt64) (rc : Int32) (C : Nat → Int32) :
    ∃ rh' ru' rc' C', f_X6_sendFan ta (ii L.length) th sc P H B g g' rh ru rc C = some (ii (cm (fan q hf s sc L th (topOf ta)) 21), ii (cm (fan q hf s sc L th (topOf ta)) 21), lo_ (fan q hf s sc L th (topOf ta)) g 21, hi_ (fan q hf s sc L th (topOf ta)) g' 21, rh', ru', rc', C') ∧ ∀ p, p < 8 → C' p = ii (ct (fan q hf s sc L th (topOf ta)) p 21) := by
  obtain ⟨a, b, d, e, h1, h2⟩ := send_sp (th := th) (sc := sc) (top := topOf ta) hR hs hk h8 ht g g' rh ru rc C
  refine ⟨a, b, d, e, ?_, h2⟩
  unfold f_X6_sendFan
  rw [gd_t (mg_n ht.1 (by decide)), bd_s h1]
/-! where in the train -/
def ixo (k : Nat) : List Nat → Nat → Int32
  | [], _ => -1
  | x :: D, m => if x = k then ii m else ixo k D (m + 1)
theorem pos_lp {q : Nat → Int32} {s : Nat → UInt64} {N P H : Nat → Int32} {B : Nat → UInt64} {k : Nat} (hk8 : k < 8) : ∀ (D : List Nat) (m : Nat), Rp q hf s N P H B m D → m + D.length ≤ 8 → (∀ d ∈ D, d < 8) → ∀ fuel, D.length < fuel →
    lp (f_X5_positionOf_b1 (ii k) (ii (m + D.length)) N) fuel (ii m) = some (ixo k D m) := by
  intro D
  induction D with
  | nil =>
    intro m _ hm _ fuel hf9
    obtain ⟨f, rfl⟩ := Nat.exists_eq_succ_of_ne_zero (show fuel ≠ 0 by omega)
    rw [lp_st]
    generalize lp (f_X5_positionOf_b1 (ii k) (ii (m + ([] : List Nat).length)) N) f = K
    simp only [List.length_nil] at hm
    unfold f_X5_positionOf_b1
    simp only [List.length_nil, Nat.add_zero]
    rw [if_pos (show ii m ≤ ii m from (ii_le (by omega) (by omega)).mpr (Nat.le_refl _))]
    rfl
  | cons d D ih =>
    intro m hR hm h8 fuel hf9
    obtain ⟨f, rfl⟩ := Nat.exists_eq_succ_of_ne_zero (show fuel ≠ 0 by omega)
    simp only [List.length_cons] at hm hf9
    obtain ⟨⟨r1, r2, r3, r4⟩, hR⟩ := hR
    have hd := h8 d List.mem_cons_self
    have ih := ih (m + 1) hR (by omega) (fun e he => h8 e (List.mem_cons_of_mem _ he)) f (by omega)
    rw [show m + 1 + D.length = m + (d :: D).length by rw [List.length_cons]; omega] at ih
    rw [lp_st]
    generalize lp (f_X5_positionOf_b1 (ii k) (ii (m + (d :: D).length)) N) f = K at ih ⊢
    unfold f_X5_positionOf_b1 ixo
    have hv : vin (ii m) 8 = true := vin_ii (by omega) (by omega)
    simp only [gd_t hv, ii_cl (show m < 100000 by omega), r1, List.length_cons, ii_s]
    rw [if_neg (show ¬ ii (m + (D.length + 1)) ≤ ii m from fun h => absurd ((ii_le (by omega) (by omega)).mp h) (by omega))]
    by_cases e : d = k
    · rw [if_pos (show ii d = ii k by rw [e]), if_pos e]
    · rw [if_neg (fun h => e ((ii_eq (by omega) (by omega)).mp h)), if_neg e]
      exact ih
theorem pos_sp {q : Nat → Int32} {s : Nat → UInt64} {N P H : Nat → Int32} {B : Nat → UInt64} {k : Nat} (hk8 : k < 8) (hR : RI q hf s N P H B L) (hk : L.length ≤ 8) (h8 : ∀ d ∈ L, d < 8) : f_X5_positionOf (ii k) (ii L.length) N = some (ixo k L 0) := by
  have := pos_lp hk8 L 0 hR.rp (by omega) h8 1000 (by omega)
  rw [Nat.zero_add] at this
  exact this
theorem ord_lp (hn : n ≤ 8) {k : Nat} (hk8 : k < 8) : ∀ (D : List Nat) (m : Nat) (v : Int32), Tr n pl v sc D → ∀ fuel, D.length < fuel →
    lp (f_X8_orderOf_b1 (ii k) (ii n) sc pl) fuel (hd D, ii m) = some (ixo k D m) := by
  intro D
  induction D with
  | nil =>
    intro m v _ fuel hf9
    obtain ⟨f, rfl⟩ := Nat.exists_eq_succ_of_ne_zero (show fuel ≠ 0 by omega)
    rw [lp_st]
    generalize lp (f_X8_orderOf_b1 (ii k) (ii n) sc pl) f = K
    unfold f_X8_orderOf_b1
    exact if_pos rfl
  | cons d D ih =>
    intro m v hT fuel hf9
    obtain ⟨f, rfl⟩ := Nat.exists_eq_succ_of_ne_zero (show fuel ≠ 0 by omega)
    simp only [List.length_cons] at hf9
    have hdn := hT.lt
    have ih := ih (m + 1) (pl d) hT.tail f (by omega)
    rw [lp_st]
    generalize lp (f_X8_orderOf_b1 (ii k) (ii n) sc pl) f = K at ih ⊢
    unfold f_X8_orderOf_b1 ixo
    have hv : vin (ii d) 8 = true := vin_ii (by omega) (by omega)
    simp only [hd, gd_t hv, ii_cl (show d < 100000 by omega), ii_s]
    rw [if_neg (ii_ne (by omega))]
    by_cases e : d = k
    · rw [if_pos (show ii d = ii k by rw [e]), if_pos e]
    · rw [if_neg (fun h => e ((ii_eq (by omega) (by omega)).mp h)), if_neg e, bd_s (next_hd hn hT.tail)]
      exact ih
theorem ord_sp (hn : n ≤ 8) {k : Nat} (hk8 : k < 8) (hT : Tr n pl th sc L) : f_X8_orderOf (ii k) (ii n) th sc pl = some (ixo k L 0) := by
  unfold f_X8_orderOf
  rw [bd_s (next_hd hn hT)]
  exact ord_lp hn hk8 L 0 th hT 1000 (by have := hT.2.2; omega)
theorem ixo_sp (k : Nat) : ∀ (D : List Nat) (m : Nat), (ixo k D m = -1 ∧ k ∉ D) ∨ ∃ j, ixo k D m = ii (m + j) ∧ D[j]? = some k
  | [], _ => Or.inl ⟨rfl, List.not_mem_nil⟩
  | x :: D, m => by
    unfold ixo
    by_cases e : x = k
    · rw [if_pos e]
      exact Or.inr ⟨0, rfl, by rw [e]; rfl⟩
    · rw [if_neg e]
      rcases ixo_sp k D (m + 1) with ⟨h1, h2⟩ | ⟨j, h1, h2⟩
      · exact Or.inl ⟨h1, fun h => (List.mem_cons.mp h).elim (fun h => e h.symm) h2⟩
      · exact Or.inr ⟨j + 1, by rw [h1]; congr 1; omega, h2⟩
/-- ofPiece -/
def ofS (pl hf pw gl : Nat → Int32) (L : List Nat) (k : Nat) (what : Int32) : Int32 := if what = 0 then pl k else if what = 1 then hf k else if what = 2 then pw k else if what = 3 then gl k else ixo k L 0
theorem of6 (hG : Gd n pl hf pw gl th sc ta) (hT : Tr n pl th sc L) {k : Nat} (hk : k < n) {what : Int32} (hw : (0 : Int32).toInt ≤ what.toInt ∧ what.toInt ≤ (4 : Int32).toInt) (t1 t2 t3 : Int32) (N P H : Nat → Int32) (B : Nat → UInt64) : ∃ z, f_X6_ofPiece (ii k) what (ii n) th sc pl hf pw gl t1 t2 t3 N P H B = some (.inr (ofS pl hf pw gl L k what, z)) := by
  have hn := hG.1
  have hv : vin (ii k) 8 = true := vin_ii (by omega) (by omega)
  have hsm := hT.small hn
  obtain ⟨N', P', H', B', h1, h2⟩ := gline hG co1 hT N P H B
  unfold f_X6_ofPiece ofS
  rw [(needPiece6 hn (ii k)).1 ⟨by rw [ii_int (by omega)]; omega, by rw [ii_int (by omega)]; omega⟩, needWhat6, if_pos hw]
  simp only [bx_i, gd_t hv, ii_cl (show k < 100000 by omega)]
  by_cases e0 : what = 0
  · rw [if_pos e0, if_pos e0]; exact ⟨_, rfl⟩
  · rw [if_neg e0, if_neg e0]
    by_cases e1 : what = 1
    · rw [if_pos e1, if_pos e1]; exact ⟨_, rfl⟩
    · rw [if_neg e1, if_neg e1]
      by_cases e2 : what = 2
      · rw [if_pos e2, if_pos e2]; exact ⟨_, rfl⟩
      · rw [if_neg e2, if_neg e2]
        by_cases e3 : what = 3
        · rw [if_pos e3, if_pos e3]; exact ⟨_, rfl⟩
        · rw [if_neg e3, if_neg e3, bd_s h1, bd_s (pos_sp (by omega) h2 hsm.1 hsm.2)]
          exact ⟨_, rfl⟩
theorem of8 (hG : Gd n pl hf pw gl th sc ta) (hT : Tr n pl th sc L) {k : Nat} (hk : k < n) (what : Int32) : f_X8_ofPieceNow (ii k) what (ii n) th sc pl hf pw gl = some (ofS pl hf pw gl L k what) := by
  have hn := hG.1
  have hv : vin (ii k) 8 = true := vin_ii (by omega) (by omega)
  unfold f_X8_ofPieceNow ofS
  simp only [gd_t hv, ii_cl (show k < 100000 by omega)]
  rw [bd_s (ord_sp hn (show k < 8 by omega) hT)]
  by_cases e0 : what = 0
  · rw [if_pos e0, if_pos e0]
  · rw [if_neg e0, if_neg e0]
    by_cases e1 : what = 1
    · rw [if_pos e1, if_pos e1]
    · rw [if_neg e1, if_neg e1]
      by_cases e2 : what = 2
      · rw [if_pos e2, if_pos e2]
      · rw [if_neg e2, if_neg e2]
        by_cases e3 : what = 3
        · rw [if_pos e3, if_pos e3]
        · rw [if_neg e3, if_neg e3]
theorem LM_ofPiece (hG : Gd n pl hf pw gl th sc ta) (a w t1 t2 t3 : Int32) (N P H : Nat → Int32) (B : Nat → UInt64) (o : Int64) : ∃ k x1 x2 x3 x4 x5 x6 x7 o' v, f_L_ofPiece a w (ii n) th sc pl hf pw gl t1 t2 t3 N P H B o = some (k, x1, x2, x3, x4, x5, x6, x7, o') ∧ f_X8_ofPiece a w (ii n) th sc pl hf pw gl = some (v, k) ∧ (k = 0 → o' = v.toInt64) := by
  have hn := hG.1
  obtain ⟨L, hT⟩ := ex_tr hG sc
  unfold f_L_ofPiece f_X8_ofPiece f_X8_refuse
  by_cases h0 : isP n a
  · rw [(isPiece8 hn a).1 h0]
    obtain ⟨x, hx, rfl⟩ := isP_ii h0
    simp only [bd_i]
    rw [if_neg (show ¬ (1 : Int32) = 0 by decide), is8]
    by_cases h1 : (0 : Int32).toInt ≤ w.toInt ∧ w.toInt ≤ (4 : Int32).toInt
    · rw [if_pos h1]
      obtain ⟨z, hz⟩ := of6 hG hT hx h1 t1 t2 t3 N P H B
      simp only [bd_i]
      rw [hz, if_neg (show ¬ (1 : Int32) = 0 by decide), bd_s (of8 hG hT hx w)]
      exact ⟨0, _, _, _, _, _, _, _, _, _, rfl, rfl, fun _ => rfl⟩
    · rw [if_neg h1]
      refine ⟨2, t1, t2, t3, N, P, H, B, o, 0, ?_, rfl, fun h => absurd h (by decide)⟩
      unfold f_X6_ofPiece
      rw [(needPiece6 hn _).1 h0, needWhat6, if_neg h1]
      rfl
  · rw [(isPiece8 hn a).2 h0]
    refine ⟨1, t1, t2, t3, N, P, H, B, o, 0, ?_, rfl, fun h => absurd h (by decide)⟩
    unfold f_X6_ofPiece
    rw [(needPiece6 hn _).2 h0]
    rfl
/-- strength -/
theorem str6 (hG : Gd n pl hf pw gl th sc ta) {k : Nat} (hk : k < n) {w : Int32} (hw : (0 : Int32).toInt ≤ w.toInt ∧ w.toInt ≤ (2 : Int32).toInt) : f_X6_strength (ii k) w (ii n) pw gl = some (.inr (pl_ (bs pw gl w k))) := by
  have hn := hG.1
  have hv : vin (ii k) 8 = true := vin_ii (by omega) (by omega)
  have hc : co w := hw
  unfold f_X6_strength
  rw [(needPiece6 hn (ii k)).1 ⟨by rw [ii_int (by omega)]; omega, by rw [ii_int (by omega)]; omega⟩, needColour6, if_pos hw]
  simp only [bx_i, gd_t hv, ii_cl (show k < 100000 by omega)]
  rw [bd_s (bend6 (hG.pgs k hk) hc), bd_s (plain6 (mg_fin (bv_mg (hG.pgs k hk) hc) (by decide)))]
theorem str8 (hG : Gd n pl hf pw gl th sc ta) {k : Nat} (hk : k < n) {w : Int32} (hc : co w) : f_X8_strengthNow (ii k) w pw gl = some (bs pw gl w k) := by
  have hn := hG.1
  have hv : vin (ii k) 8 = true := vin_ii (by omega) (by omega)
  have := bend8 (pw := pw) (gl := gl) (c := w) hv (by rw [ii_cl (show k < 100000 by omega)]; exact hG.pgs k hk) hc
  rw [ii_cl (show k < 100000 by omega)] at this
  exact this
theorem LM_strength (hG : Gd n pl hf pw gl th sc ta) (a w : Int32) (o : UInt64) : ∃ k o' v, f_L_strength a w (ii n) pw gl o = some (k, o') ∧ f_X8_strength a w (ii n) pw gl = some (v, k) ∧ (k = 0 → o' = v ∧ mg v 2000) := by
  have hn := hG.1
  unfold f_L_strength f_X8_strength
  by_cases h0 : isP n a
  · rw [(isPiece8 hn a).1 h0]
    obtain ⟨x, hx, rfl⟩ := isP_ii h0
    simp only [bd_i]
    rw [if_neg (show ¬ (1 : Int32) = 0 by decide), is8]
    by_cases h1 : (0 : Int32).toInt ≤ w.toInt ∧ w.toInt ≤ (2 : Int32).toInt
    · rw [if_pos h1]
      simp only [bd_i]
      have hm := bv_mg (hG.pgs x hx) (show co w from h1)
      rw [str6 hG hx h1, if_neg (show ¬ (1 : Int32) = 0 by decide), bd_s (str8 hG hx h1), bd_s (plain8 (mg_fin hm (by decide)))]
      exact ⟨0, _, _, rfl, rfl, fun _ => ⟨rfl, mg_mono (mg_pl hm (by decide)) (by decide)⟩⟩
    · rw [if_neg h1]
      refine ⟨2, o, _, ?_, rfl, fun h => absurd h (by decide)⟩
      unfold f_X6_strength
      rw [(needPiece6 hn _).1 h0, needColour6, if_neg h1]
      rfl
  · rw [(isPiece8 hn a).2 h0]
    refine ⟨1, o, _, ?_, rfl, fun h => absurd h (by decide)⟩
    unfold f_X6_strength
    rw [(needPiece6 hn _).2 h0]
    rfl
end PureAsk
