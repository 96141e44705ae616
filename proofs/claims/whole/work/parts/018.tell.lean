/-! PURE TELLING: the calls that change the bench; class and reference change it alike. -/
section PureTell
variable {n : Nat} {pl hf pw gl : Nat → Int32} {th sc ta : Int32}
theorem upd_at (A : Nat → Int32) (k : Nat) (x : Int32) : upd A k x k = x := if_pos rfl
theorem upd_ne {A : Nat → Int32} {k j : Nat} {x : Int32} (h : j ≠ k) : upd A k x j = A j := if_neg h
theorem Gd.put (hG : Gd n pl hf pw gl th sc ta) (h8 : n < 8) {p h w g : Int32} (hp : 0 ≤ p.toInt ∧ p.toInt ≤ 99) (hh : 1 ≤ h.toInt ∧ h.toInt ≤ 20) (hg : pg w g) (hno : ∀ i, i < n → pl i ≠ p) : Gd (n + 1) (upd pl n p) (upd hf n h) (upd pw n w) (upd gl n g) th sc ta := by
  obtain ⟨a1, a2, a3, a4, a5, a6⟩ := hG
  have key : ∀ i, i < n + 1 → (i = n) ∨ (i < n ∧ i ≠ n) := fun i hi => by omega
  refine ⟨by omega, fun i hi => ?_, fun i j hi hj hij => ?_, fun i hi => ?_, fun i hi => ?_, a6⟩
  · rcases key i hi with rfl | ⟨e, ne⟩
    · rw [upd_at]; exact hp
    · rw [upd_ne ne]; exact a2 i e
  · rcases key i hi with rfl | ⟨e, ne⟩ <;> rcases key j hj with rfl | ⟨e2, ne2⟩
    · exact absurd rfl hij
    · rw [upd_at, upd_ne ne2]; exact fun h9 => hno j e2 (Int32.toInt_inj.mp h9.symm)
    · rw [upd_at, upd_ne ne]; exact fun h9 => hno i e (Int32.toInt_inj.mp h9)
    · rw [upd_ne ne, upd_ne ne2]; exact a3 i j e e2 hij
  · rcases key i hi with rfl | ⟨e, ne⟩
    · rw [upd_at]; exact hh
    · rw [upd_ne ne]; exact a4 i e
  · rcases key i hi with rfl | ⟨e, ne⟩
    · rw [upd_at, upd_at]; exact hg
    · rw [upd_ne ne, upd_ne ne]; exact a5 i e
theorem Gd.place (hG : Gd n pl hf pw gl th sc ta) {k : Nat} (hk : k < n) {p : Int32} (hp : 0 ≤ p.toInt ∧ p.toInt ≤ 99) (hno : ∀ i, i < n → i ≠ k → pl i ≠ p) : Gd n (upd pl k p) hf pw gl th sc ta := by
  obtain ⟨a1, a2, a3, a4⟩ := hG
  refine ⟨a1, fun i hi => ?_, fun i j hi hj hij => ?_, a4⟩
  · by_cases e : i = k
    · subst e; rw [upd_at]; exact hp
    · rw [upd_ne e]; exact a2 i hi
  · by_cases e : i = k
    · subst e
      rw [upd_at, upd_ne (fun h => hij h.symm)]
      exact fun h9 => hno j hj (fun h => hij h.symm) (Int32.toInt_inj.mp h9.symm)
    · rw [upd_ne e]
      by_cases e2 : j = k
      · subst e2; rw [upd_at]; exact fun h9 => hno i hi hij (Int32.toInt_inj.mp h9)
      · rw [upd_ne e2]; exact a3 i j hi hj hij
/-- put: both put it, or both refuse -/
theorem put_sp (hG : Gd n pl hf pw gl th sc ta) {p h w g : Int32} (hp : 0 ≤ p.toInt ∧ p.toInt ≤ 99) (hh : 1 ≤ h.toInt ∧ h.toInt ≤ 20) (hg : pg w g) :
    (f_X6_put p h w g (ii n) pl hf pw gl = some (.inl "java/lang/IllegalStateException") ∧ f_X8_put p h w g 0 (ii n) pl hf pw gl = some (0, 3, ii n, pl, hf, pw, gl)) ∨
    (∃ v, f_X6_put p h w g (ii n) pl hf pw gl = some (.inr (v, ii (n + 1), upd pl n p, upd hf n h, upd pw n w, upd gl n g)) ∧ f_X8_put p h w g 0 (ii n) pl hf pw gl = some (v, 0, ii (n + 1), upd pl n p, upd hf n h, upd pw n w, upd gl n g) ∧ Gd (n + 1) (upd pl n p) (upd hf n h) (upd pw n w) (upd gl n g) th sc ta) := by
  have hn := hG.1
  unfold f_X6_put f_X8_put f_X8_refuse
  by_cases h8 : n < 8
  · rw [if_pos (show ii n < (8 : Int32) from (ii_lt (b := 8) (by omega) (by omega)).mpr h8), if_neg (show ¬ ii n = (8 : Int32) from fun h => absurd ((ii_eq (b := 8) (by omega) (by omega)).mp h) (by omega))]
    obtain ⟨a, t, h1, h2, h3⟩ := at_tk (q := pl) hn hG.2.2.1 p (-1)
    rw [bd_s h1, bd_s h2]
    rcases h3 with ⟨rfl, h4, h5⟩ | ⟨rfl, h4, h5⟩
    · have ha : a = -1 := by rcases h4 with h | h <;> exact h
      subst ha
      have hv : vin (ii n) 8 = true := vin_ii h8 (by omega)
      refine Or.inr ⟨ii (n + 1) - 1, ?_, ?_, hG.put h8 hp hh hg (fun i hi => h5 i hi (ii_ne (by omega)))⟩
      · rw [if_pos rfl]
        simp only [gd_t hv, ii_s, ii_cl (show n < 100000 by omega)]
      · rw [if_pos rfl]
        simp only [gd_t hv, ii_s, ii_cl (show n < 100000 by omega)]
    · refine Or.inl ⟨?_, ?_⟩
      · rw [if_neg (by decide)]
      · rw [if_neg h4]; rfl
  · have hn8 : n = 8 := by omega
    subst hn8
    refine Or.inl ⟨?_, ?_⟩
    · rw [if_neg (by decide)]
    · rw [if_pos (by decide)]; rfl
theorem LM_lens (hG : Gd n pl hf pw gl th sc ta) (p h w g : Int32) (o : Int64) : ∃ k n' pl' hf' pw' gl' o' v, f_L_lens p h w g (ii n) pl hf pw gl o = some (k, ii n', pl', hf', pw', gl', o') ∧ f_X8_lens p h w g (ii n) pl hf pw gl = some (v, k, ii n', pl', hf', pw', gl') ∧ Gd n' pl' hf' pw' gl' th sc ta ∧ (k = 0 → o' = v.toInt64) := by
  unfold f_L_lens f_X6_lens f_X8_lens f_X8_refuse
  rw [needPlace6, is8, needHalf6]
  by_cases h1 : (0 : Int32).toInt ≤ p.toInt ∧ p.toInt ≤ (99 : Int32).toInt
  · rw [if_pos h1, if_pos h1]
    simp only [bx_i, bd_i]
    rw [is8]
    by_cases h2 : (1 : Int32).toInt ≤ h.toInt ∧ h.toInt ≤ (20 : Int32).toInt
    · rw [if_pos h2, if_pos h2]
      simp only [bx_i, bd_i]
      rw [if_neg (show ¬ (1 : Int32) = 0 by decide), if_neg (show ¬ (1 : Int32) = 0 by decide)]
      by_cases h3 : w = 0
      · rw [if_pos h3, if_pos h3]
        exact ⟨2, n, pl, hf, pw, gl, o, 0, rfl, rfl, hG, fun h => absurd h (by decide)⟩
      · rw [if_neg h3, if_neg h3, is8]
        by_cases h4 : (-50 : Int32).toInt ≤ w.toInt ∧ w.toInt ≤ (50 : Int32).toInt
        · rw [if_pos h4, if_neg (show ¬ w < -50 by rw [iL]; omega), if_pos (show w ≤ 50 from (iE _ _).mpr h4.2)]
          simp only [bd_i]
          rw [if_neg (show ¬ (1 : Int32) = 0 by decide), is8]
          by_cases h5 : (0 : Int32).toInt ≤ g.toInt ∧ g.toInt ≤ (2 : Int32).toInt
          · rw [if_pos h5, if_neg (show ¬ g < 0 by rw [iL]; omega), if_pos (show g ≤ 2 from (iE _ _).mpr h5.2)]
            simp only [bd_i]
            rw [if_neg (show ¬ (1 : Int32) = 0 by decide)]
            rcases put_sp hG (p := p) (h := h) (w := w) (g := g) h1 h2 ⟨h4.1, h4.2, Or.inr h5⟩ with ⟨q1, q2⟩ | ⟨v, q1, q2, q3⟩
            · rw [q1, bd_s q2]
              exact ⟨3, n, pl, hf, pw, gl, o, 0, rfl, rfl, hG, fun h => absurd h (by decide)⟩
            · rw [q1, bd_s q2]
              exact ⟨0, n + 1, _, _, _, _, _, v, rfl, rfl, q3, fun _ => rfl⟩
          · rw [if_neg h5]
            refine ⟨2, n, pl, hf, pw, gl, o, 0, ?_, rfl, hG, fun h => absurd h (by decide)⟩
            by_cases h6 : g < 0
            · rw [if_pos h6]; rfl
            · rw [if_neg h6, if_neg (show ¬ g ≤ 2 by rw [iL] at h6; rw [iE]; omega)]; rfl
        · rw [if_neg h4]
          refine ⟨2, n, pl, hf, pw, gl, o, 0, ?_, rfl, hG, fun h => absurd h (by decide)⟩
          by_cases h6 : w < -50
          · rw [if_pos h6]; rfl
          · rw [if_neg h6, if_neg (show ¬ w ≤ 50 by rw [iL] at h6; rw [iE]; omega)]; rfl
    · rw [if_neg h2, if_neg h2]
      exact ⟨2, n, pl, hf, pw, gl, o, 0, rfl, rfl, hG, fun h => absurd h (by decide)⟩
  · rw [if_neg h1, if_neg h1]
    exact ⟨1, n, pl, hf, pw, gl, o, 0, rfl, rfl, hG, fun h => absurd h (by decide)⟩
theorem LM_stop (hG : Gd n pl hf pw gl th sc ta) (p h : Int32) (o : Int64) : ∃ k n' pl' hf' pw' gl' o' v, f_L_stop p h (ii n) pl hf pw gl o = some (k, ii n', pl', hf', pw', gl', o') ∧ f_X8_stop p h (ii n) pl hf pw gl = some (v, k, ii n', pl', hf', pw', gl') ∧ Gd n' pl' hf' pw' gl' th sc ta ∧ (k = 0 → o' = v.toInt64) := by
  unfold f_L_stop f_X6_stop f_X8_stop f_X8_refuse
  rw [needPlace6, is8, needHalf6]
  by_cases h1 : (0 : Int32).toInt ≤ p.toInt ∧ p.toInt ≤ (99 : Int32).toInt
  · rw [if_pos h1, if_pos h1]
    simp only [bx_i, bd_i]
    rw [is8]
    by_cases h2 : (1 : Int32).toInt ≤ h.toInt ∧ h.toInt ≤ (20 : Int32).toInt
    · rw [if_pos h2, if_pos h2]
      simp only [bx_i, bd_i]
      rw [if_neg (show ¬ (1 : Int32) = 0 by decide), if_neg (show ¬ (1 : Int32) = 0 by decide)]
      rcases put_sp hG (p := p) (h := h) (w := 0) (g := -1) h1 h2 (by unfold pg; decide) with ⟨q1, q2⟩ | ⟨v, q1, q2, q3⟩
      · rw [q1, bd_s q2]
        exact ⟨3, n, pl, hf, pw, gl, o, 0, rfl, rfl, hG, fun h => absurd h (by decide)⟩
      · rw [q1, bd_s q2]
        exact ⟨0, n + 1, _, _, _, _, _, v, rfl, rfl, q3, fun _ => rfl⟩
    · rw [if_neg h2, if_neg h2]
      exact ⟨2, n, pl, hf, pw, gl, o, 0, rfl, rfl, hG, fun h => absurd h (by decide)⟩
  · rw [if_neg h1, if_neg h1]
    exact ⟨1, n, pl, hf, pw, gl, o, 0, rfl, rfl, hG, fun h => absurd h (by decide)⟩
theorem LM_move (hG : Gd n pl hf pw gl th sc ta) (a p : Int32) (o : Int64) : ∃ k pl' o' v, f_L_move a p (ii n) pl o = some (k, pl', o') ∧ f_X8_move a p (ii n) pl = some (v, k, pl') ∧ Gd n pl' hf pw gl th sc ta ∧ (k = 0 → o' = v.toInt64) := by
  have hn := hG.1
  unfold f_L_move f_X6_move f_X8_move f_X8_refuse
  by_cases h0 : isP n a
  · rw [(needPiece6 hn a).1 h0, (isPiece8 hn a).1 h0]
    obtain ⟨x, hx, rfl⟩ := isP_ii h0
    simp only [bx_i, bd_i]
    rw [if_neg (show ¬ (1 : Int32) = 0 by decide), needPlace6, is8]
    by_cases h1 : (0 : Int32).toInt ≤ p.toInt ∧ p.toInt ≤ (99 : Int32).toInt
    · rw [if_pos h1, if_pos h1]
      simp only [bx_i, bd_i]
      rw [if_neg (show ¬ (1 : Int32) = 0 by decide)]
      obtain ⟨c, t, q1, q2, q3⟩ := at_tk (q := pl) hn hG.2.2.1 p (ii x)
      have hv : vin (ii x) 8 = true := vin_ii (by omega) (by omega)
      rw [bd_s q1, bd_s q2]
      simp only [gd_t hv, ii_cl (show x < 100000 by omega)]
      rcases q3 with ⟨rfl, q4, q5⟩ | ⟨rfl, q4, q5⟩
      · refine ⟨0, upd pl x p, _, pl x, by rw [if_pos rfl]; rfl, ?_, hG.place hx h1 (fun i hi hne => q5 i hi (fun h => hne ((ii_eq (by omega) (by omega)).mp h))), fun _ => rfl⟩
        rcases q4 with rfl | rfl
        · rw [if_pos rfl]
        · rw [if_neg (ii_ne (by omega)), if_pos rfl]
      · refine ⟨2, pl, o, 0, by rw [if_neg (by decide)]; rfl, ?_, hG, fun h => absurd h (by decide)⟩
        rw [if_neg q4, if_neg q5]
    · rw [if_neg h1, if_neg h1]
      exact ⟨1, pl, o, 0, rfl, rfl, hG, fun h => absurd h (by decide)⟩
  · rw [(needPiece6 hn a).2 h0, (isPiece8 hn a).2 h0]
    exact ⟨1, pl, o, 0, rfl, rfl, hG, fun h => absurd h (by decide)⟩
theorem LM_half (hG : Gd n pl hf pw gl th sc ta) (a p : Int32) (o : Int64) : ∃ k hf' o' v, f_L_half a p (ii n) hf o = some (k, hf', o') ∧ f_X8_half a p (ii n) hf = some (v, k, hf') ∧ Gd n pl hf' pw gl th sc ta ∧ (k = 0 → o' = v.toInt64) := by
  have hn := hG.1
  unfold f_L_half f_X6_half f_X8_half f_X8_refuse
  by_cases h0 : isP n a
  · rw [(needPiece6 hn a).1 h0, (isPiece8 hn a).1 h0]
    obtain ⟨x, hx, rfl⟩ := isP_ii h0
    simp only [bx_i, bd_i]
    rw [if_neg (show ¬ (1 : Int32) = 0 by decide), needHalf6, is8]
    by_cases h1 : (1 : Int32).toInt ≤ p.toInt ∧ p.toInt ≤ (20 : Int32).toInt
    · rw [if_pos h1, if_pos h1]
      have hv : vin (ii x) 8 = true := vin_ii (by omega) (by omega)
      simp only [bx_i, bd_i, gd_t hv, ii_cl (show x < 100000 by omega)]
      rw [if_neg (show ¬ (1 : Int32) = 0 by decide)]
      refine ⟨0, upd hf x p, _, hf x, rfl, rfl, ⟨hG.1, hG.2.1, hG.2.2.1, fun i hi => ?_, hG.2.2.2.2⟩, fun _ => rfl⟩
      by_cases e : i = x
      · subst e; rw [upd_at]; exact h1
      · rw [upd_ne e]; exact hG.2.2.2.1 i hi
    · rw [if_neg h1, if_neg h1]
      exact ⟨2, hf, o, 0, rfl, rfl, hG, fun h => absurd h (by decide)⟩
  · rw [(needPiece6 hn a).2 h0, (isPiece8 hn a).2 h0]
    exact ⟨1, hf, o, 0, rfl, rfl, hG, fun h => absurd h (by decide)⟩
theorem Gd.swap (hG : Gd n pl hf pw gl th sc ta) {x y : Nat} (hx : x < n) (hy : y < n) : Gd n (upd (upd pl x (pl y)) y (pl x)) hf pw gl th sc ta := by
  obtain ⟨a1, a2, a3, a4⟩ := hG
  have key : ∀ i, upd (upd pl x (pl y)) y (pl x) i = pl (if i = y then x else if i = x then y else i) := by
    intro i
    by_cases e : i = y
    · subst e; rw [upd_at, if_pos rfl]
    · rw [upd_ne e, if_neg e]
      by_cases e2 : i = x
      · subst e2; rw [upd_at, if_pos rfl]
      · rw [upd_ne e2, if_neg e2]
  have lt : ∀ i, i < n → (if i = y then x else if i = x then y else i) < n := by
    intro i hi
    split
    · exact hx
    · split
      · exact hy
      · exact hi
  refine ⟨a1, fun i hi => ?_, fun i j hi hj hij => ?_, a4⟩
  · rw [key]; exact a2 _ (lt i hi)
  · rw [key, key]
    refine a3 _ _ (lt i hi) (lt j hj) ?_
    split <;> split <;> (try split) <;> (try split) <;> omega
theorem LM_swap (hG : Gd n pl hf pw gl th sc ta) (a p : Int32) (o : Int64) : ∃ k pl' o' v, f_L_swap a p (ii n) pl o = some (k, pl', o') ∧ f_X8_swap a p (ii n) pl = some (v, k, pl') ∧ Gd n pl' hf pw gl th sc ta ∧ (k = 0 → o' = v.toInt64) := by
  have hn := hG.1
  unfold f_L_swap f_X6_swap f_X8_swap f_X8_refuse
  by_cases h0 : isP n a
  · rw [(needPiece6 hn a).1 h0, (isPiece8 hn a).1 h0]
    obtain ⟨x, hx, rfl⟩ := isP_ii h0
    simp only [bx_i, bd_i]
    rw [if_neg (show ¬ (1 : Int32) = 0 by decide)]
    by_cases h1 : isP n p
    · rw [(needPiece6 hn p).1 h1, (isPiece8 hn p).1 h1]
      obtain ⟨y, hy, rfl⟩ := isP_ii h1
      have hv : vin (ii x) 8 = true := vin_ii (by omega) (by omega)
      have hv2 : vin (ii y) 8 = true := vin_ii (by omega) (by omega)
      simp only [bx_i, bd_i, gd_t hv, gd_t hv2, ii_cl (show x < 100000 by omega), ii_cl (show y < 100000 by omega)]
      rw [if_neg (show ¬ (1 : Int32) = 0 by decide)]
      exact ⟨0, _, _, _, rfl, rfl, hG.swap hx hy, fun _ => rfl⟩
    · rw [(needPiece6 hn p).2 h1, (isPiece8 hn p).2 h1]
      exact ⟨1, pl, o, 0, rfl, rfl, hG, fun h => absurd h (by decide)⟩
  · rw [(needPiece6 hn a).2 h0, (isPiece8 hn a).2 h0]
    exact ⟨1, pl, o, 0, rfl, rfl, hG, fun h => absurd h (by decide)⟩
theorem LM_thing (hG : Gd n pl hf pw gl th sc ta) (p : Int32) (o : Int64) : ∃ k th' o' v, f_L_thing p th sc o = some (k, th', o') ∧ f_X8_thing p th sc = some (v, k, th') ∧ Gd n pl hf pw gl th' sc ta ∧ (k = 0 → o' = v.toInt64) := by
  unfold f_L_thing f_X6_thing f_X8_thing f_X8_refuse
  rw [needPlace6, is8]
  by_cases h1 : (0 : Int32).toInt ≤ p.toInt ∧ p.toInt ≤ (99 : Int32).toInt
  · rw [if_pos h1, if_pos h1]
    simp only [bx_i, bd_i]
    rw [if_neg (show ¬ (1 : Int32) = 0 by decide)]
    by_cases h2 : p < sc
    · rw [if_pos h2, if_pos h2]
      obtain ⟨a1, a2, a3, a4, a5, a6, a7, a8⟩ := hG
      exact ⟨0, p, _, th, rfl, rfl, ⟨a1, a2, a3, a4, a5, h1.1, (iL _ _).mp h2, a8⟩, fun _ => rfl⟩
    · rw [if_neg h2, if_neg h2]
      exact ⟨2, th, o, 0, rfl, rfl, hG, fun h => absurd h (by decide)⟩
  · rw [if_neg h1, if_neg h1]
    exact ⟨1, th, o, 0, rfl, rfl, hG, fun h => absurd h (by decide)⟩
theorem LM_screen (hG : Gd n pl hf pw gl th sc ta) (p : Int32) (o : Int64) : ∃ k sc' o' v, f_L_screen p th sc o = some (k, sc', o') ∧ f_X8_screen p th sc = some (v, k, sc') ∧ Gd n pl hf pw gl th sc' ta ∧ (k = 0 → o' = v.toInt64) := by
  unfold f_L_screen f_X6_screen f_X8_screen f_X8_refuse
  rw [needPlace6, is8]
  by_cases h1 : (0 : Int32).toInt ≤ p.toInt ∧ p.toInt ≤ (99 : Int32).toInt
  · rw [if_pos h1, if_pos h1]
    simp only [bx_i, bd_i]
    rw [if_neg (show ¬ (1 : Int32) = 0 by decide)]
    by_cases h2 : th < p
    · rw [if_pos h2, if_pos h2]
      obtain ⟨a1, a2, a3, a4, a5, a6, a7, a8, a9⟩ := hG
      exact ⟨0, p, _, sc, rfl, rfl, ⟨a1, a2, a3, a4, a5, a6, (iL _ _).mp h2, h1.2, a9⟩, fun _ => rfl⟩
    · rw [if_neg h2, if_neg h2]
      exact ⟨2, sc, o, 0, rfl, rfl, hG, fun h => absurd h (by decide)⟩
  · rw [if_neg h1, if_neg h1]
    exact ⟨1, sc, o, 0, rfl, rfl, hG, fun h => absurd h (by decide)⟩
theorem LM_tall (hG : Gd n pl hf pw gl th sc ta) (p : Int32) (o : Int64) : ∃ k ta' o' v, f_L_tall p ta o = some (k, ta', o') ∧ f_X8_tall p ta = some (v, k, ta') ∧ Gd n pl hf pw gl th sc ta' ∧ (k = 0 → o' = v.toInt64) := by
  unfold f_L_tall f_X6_tall f_X8_tall f_X8_refuse
  rw [is8]
  by_cases h1 : (0 : Int32).toInt ≤ p.toInt ∧ p.toInt ≤ (80 : Int32).toInt
  · rw [if_pos h1, if_neg (show ¬ p < 0 by rw [iL]; omega), if_pos (show p ≤ 80 from (iE _ _).mpr h1.2)]
    simp only [bd_i, bt_i]
    rw [if_neg (show ¬ (1 : Int32) = 0 by decide)]
    obtain ⟨a1, a2, a3, a4, a5, a6, a7, a8, a9⟩ := hG
    exact ⟨0, p, _, ta, rfl, rfl, ⟨a1, a2, a3, a4, a5, a6, a7, a8, h1⟩, fun _ => rfl⟩
  · rw [if_neg h1]
    refine ⟨1, ta, o, 0, ?_, rfl, hG, fun h => absurd h (by decide)⟩
    by_cases h6 : p < 0
    · rw [if_pos h6]; rfl
    · rw [if_neg h6, if_neg (show ¬ p ≤ 80 by rw [iL] at h6; rw [iE]; omega)]; rfl
end PureTell
