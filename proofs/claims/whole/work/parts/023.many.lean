/-! PURE MANY: what is counted; the last place. -/
section PureMany
variable {n : Nat} {pl hf pw gl : Nat → Int32} {th sc ta re c : Int32} {L : List Nat}
def lsp (pl : Nat → Int32) : List Nat → Int32 → Int32
  | [], w => w
  | x :: D, _ => lsp pl D (pl x)
theorem lsp_rp {q : Nat → Int32} {s : Nat → UInt64} {N P H : Nat → Int32} {B : Nat → UInt64} : ∀ (D : List Nat) (k : Nat) (w : Int32), Rp q hf s N P H B k D → D ≠ [] → P (k + D.length - 1) = lsp q D w
  | [], _, _, _, h => absurd rfl h
  | [x], k, w, hR, _ => hR.1.2.1
  | x :: y :: D, k, w, hR, _ => by
    have h := lsp_rp (y :: D) (k + 1) (q x) hR.2 (by simp)
    rw [show k + (x :: y :: D).length - 1 = k + 1 + (y :: D).length - 1 by simp only [List.length_cons]; omega, h]
    rfl
theorem last_sp {q : Nat → Int32} {s : Nat → UInt64} {N P H : Nat → Int32} {B : Nat → UInt64} (hR : RI q hf s N P H B L) (hk : L.length ≤ 8) : f_X5_lastPlace (ii L.length) th P = some (lsp q L th) := by
  unfold f_X5_lastPlace
  by_cases h : L = []
  · subst h
    exact if_pos (by decide)
  · have hl : 0 < L.length := List.length_pos_iff.mpr h
    rw [if_neg (show ¬ ii L.length ≤ 0 from fun h9 => absurd ((ii_le (b := 0) (by omega) (by omega)).mp h9) (by omega)), ii_p (show 1 ≤ L.length by omega), gd_t (vin_ii (by omega) (by omega)), ii_cl (by omega)]
    have := lsp_rp L 0 th hR.rp h
    rw [Nat.zero_add] at this
    rw [this]
theorem lsp_in (hpl : ∀ i, i < n → 0 ≤ (pl i).toInt ∧ (pl i).toInt ≤ 99) : ∀ (D : List Nat) (w : Int32), (∀ d ∈ D, d < n) → (0 ≤ w.toInt ∧ w.toInt ≤ 99) → 0 ≤ (lsp pl D w).toInt ∧ (lsp pl D w).toInt ≤ 99
  | [], _, _, h => h
  | x :: D, w, hd, h => lsp_in hpl D (pl x) (fun d hd9 => hd d (List.mem_cons_of_mem _ hd9)) (hpl x (hd x List.mem_cons_self))
def nl (pw : Nat → Int32) : Nat → Nat
  | 0 => 0
  | i + 1 => nl pw i + if pw i = 0 then 0 else 1
theorem lens6 (hn : n ≤ 8) : ∀ (j k : Nat), n = k + j → ∀ fuel, j < fuel → lp (f_X6_countLenses_b1 (ii n) pw) fuel (ii k, ii (nl pw k)) = some (ii (nl pw n)) := by
  intro j
  induction j with
  | zero =>
    intro k hk fuel hf9
    obtain ⟨f, rfl⟩ := Nat.exists_eq_succ_of_ne_zero (show fuel ≠ 0 by omega)
    rw [lp_st]
    generalize lp (f_X6_countLenses_b1 (ii n) pw) f = K
    unfold f_X6_countLenses_b1
    rw [if_pos (show ii n ≤ ii k from (ii_le (by omega) (by omega)).mpr (by omega)), show n = k by omega]
  | succ j ih =>
    intro k hk fuel hf9
    obtain ⟨f, rfl⟩ := Nat.exists_eq_succ_of_ne_zero (show fuel ≠ 0 by omega)
    have ih := ih (k + 1) (by omega) f (by omega)
    rw [lp_st]
    generalize lp (f_X6_countLenses_b1 (ii n) pw) f = K at ih ⊢
    unfold f_X6_countLenses_b1
    have hv : vin (ii k) 8 = true := vin_ii (by omega) (by omega)
    rw [if_neg (show ¬ ii n ≤ ii k from fun h => absurd ((ii_le (by omega) (by omega)).mp h) (by omega)), gd_t hv]
    simp only [ii_cl (show k < 100000 by omega), ii_s]
    by_cases e : pw k = 0
    · rw [if_pos e]
      rw [show nl pw (k + 1) = nl pw k by show nl pw k + _ = _; rw [if_pos e]; rfl] at ih
      exact ih
    · rw [if_neg e]
      rw [show nl pw (k + 1) = nl pw k + 1 by show nl pw k + _ = _; rw [if_neg e]] at ih
      exact ih
def maS (n : Nat) (pl hf pw gl : Nat → Int32) (th sc ta re : Int32) (L : List Nat) (w : Int32) : Int32 :=
  if w = 0 then ii n else if w = 1 then ii (nl pw n) else if w = 2 then ii L.length else if w = 3 then th else if w = 4 then sc else if w = 5 then cn (opS pl hf (bs pw gl 1) L th).1 else if w = 6 then ii (cm (fanG pl hf pw gl 1 th sc ta L) 21) else if w = 7 then re else if w = 8 then lsp pl L th else ta
theorem many6 (hG : Gd n pl hf pw gl th sc ta) (hT : Tr n pl th sc L) {w : Int32} (hw : (0 : Int32).toInt ≤ w.toInt ∧ w.toInt ≤ (9 : Int32).toInt) (t1 t2 t3 : Int32) (N P H : Nat → Int32) (B : Nat → UInt64) (f1 : Int32) (g g' rh ru : UInt64) (rc : Int32) (C : Nat → Int32) (b1 b2 b3 b4 : UInt64) (o1 : Int32) (o2 : UInt64) : ∃ z, f_X6_many w (ii n) th sc ta re pl hf pw gl t1 t2 t3 N P H B f1 g g' rh ru rc C b1 b2 b3 b4 o1 o2 = some (.inr (maS n pl hf pw gl th sc ta re L w, z)) := by
  have hn := hG.1
  have hsm := hT.small hn
  obtain ⟨N', P', H', B', h1, h2⟩ := gline hG co1 hT N P H B
  obtain ⟨z3, h3⟩ := seek_sp (th := th) h2 (hT.bends hG.pgs co1) hsm.2 hsm.1
  obtain ⟨x1, x2, x3, x4, h4, h5⟩ := gsend (th := th) (sc := sc) hG.top h2 (hT.bends hG.pgs co1) hsm.1 hsm.2 g g' rh ru rc C
  unfold f_X6_many maS
  rw [needWhat6, if_pos hw, bx_i]
  by_cases e0 : w = 0
  · rw [if_pos e0, if_pos e0]; exact ⟨_, rfl⟩
  rw [if_neg e0, if_neg e0]
  by_cases e1 : w = 1
  · rw [if_pos e1, if_pos e1, bd_s (show f_X6_countLenses (ii n) pw = some (ii (nl pw n)) from lens6 hn n 0 (by omega) 1000 (by omega))]; exact ⟨_, rfl⟩
  rw [if_neg e1, if_neg e1]
  by_cases e2 : w = 2
  · rw [if_pos e2, if_pos e2, bd_s h1]; exact ⟨_, rfl⟩
  rw [if_neg e2, if_neg e2]
  by_cases e3 : w = 3
  · rw [if_pos e3, if_pos e3]; exact ⟨_, rfl⟩
  rw [if_neg e3, if_neg e3]
  by_cases e4 : w = 4
  · rw [if_pos e4, if_pos e4]; exact ⟨_, rfl⟩
  rw [if_neg e4, if_neg e4]
  by_cases e5 : w = 5
  · rw [if_pos e5, if_pos e5, bd_s h1, bd_s h3, bd_s (num_sp h2 hsm.1 opS_at)]; exact ⟨_, rfl⟩
  rw [if_neg e5, if_neg e5]
  by_cases e6 : w = 6
  · rw [if_pos e6, if_pos e6, bd_s h1, bd_s h4]; exact ⟨_, rfl⟩
  rw [if_neg e6, if_neg e6]
  by_cases e7 : w = 7
  · rw [if_pos e7, if_pos e7]; exact ⟨_, rfl⟩
  rw [if_neg e7, if_neg e7]
  by_cases e8 : w = 8
  · rw [if_pos e8, if_pos e8, bd_s h1, bd_s (last_sp h2 hsm.1)]; exact ⟨_, rfl⟩
  rw [if_neg e8, if_neg e8]; exact ⟨_, rfl⟩
theorem many8_b2 (hG : Gd n pl hf pw gl th sc ta) (hT : Tr n pl th sc L) (w : Int32) (h0 u0 : UInt64) (c0 : Int32) (i9 : Int32) : ∀ (D : List Nat) (m : Nat) (v : Int32), Tr n pl v sc D → m + D.length = L.length → lsp pl D v = lsp pl L th → ∀ fuel, D.length < fuel →
    ∃ h' u' c', lp (f_X8_manyNow_b2 w (ii n) th sc ta re h0 u0 c0 pl hf pw gl (i9, ii (nl pw n))) fuel (hd D, v, ii m) = some (maS n pl hf pw gl th sc ta re L w, h', u', c') := by
  have hn := hG.1
  intro D
  induction D with
  | nil =>
    intro m v _ hm hl fuel hf9
    obtain ⟨f, rfl⟩ := Nat.exists_eq_succ_of_ne_zero (show fuel ≠ 0 by omega)
    rw [lp_st]
    generalize lp (f_X8_manyNow_b2 w (ii n) th sc ta re h0 u0 c0 pl hf pw gl (i9, ii (nl pw n))) f = K
    obtain ⟨h', u', c', h8⟩ := light_sp (p := (-1 : Int32)) (hf := hf) hn hG.pgs hT hG.top h0 u0 c0
    rw [show wo (-1 : Int32) L = L from filter_no hn hT] at h8
    unfold f_X8_manyNow_b2 maS
    simp only [hd]
    rw [if_pos trivial, bd_s (open_sp hn hG.pgs hG.halves hT), bd_s h8, ← hl, ← hm]
    simp only [List.length_nil, Nat.add_zero, lsp]
    split
    · exact ⟨_, _, _, rfl⟩
    split
    · exact ⟨_, _, _, rfl⟩
    split
    · exact ⟨_, _, _, rfl⟩
    split
    · exact ⟨_, _, _, rfl⟩
    split
    · exact ⟨_, _, _, rfl⟩
    split
    · exact ⟨_, _, _, rfl⟩
    split
    · exact ⟨_, _, _, rfl⟩
    split
    · exact ⟨_, _, _, rfl⟩
    split <;> exact ⟨_, _, _, rfl⟩
  | cons d D ih =>
    intro m v hT2 hm hl fuel hf9
    obtain ⟨f, rfl⟩ := Nat.exists_eq_succ_of_ne_zero (show fuel ≠ 0 by omega)
    simp only [List.length_cons] at hm hf9
    have hdn := hT2.lt
    have ih := ih (m + 1) (pl d) hT2.tail (by omega) hl f (by omega)
    rw [lp_st]
    generalize lp (f_X8_manyNow_b2 w (ii n) th sc ta re h0 u0 c0 pl hf pw gl (i9, ii (nl pw n))) f = K at ih ⊢
    unfold f_X8_manyNow_b2
    have hv : vin (ii d) 8 = true := vin_ii (by omega) (by omega)
    simp only [hd, gd_t hv, ii_cl (show d < 100000 by omega), ii_s]
    rw [if_neg (ii_ne (by omega)), bd_s (next_hd hn hT2.tail)]
    exact ih
theorem many8_b1 (hG : Gd n pl hf pw gl th sc ta) (hT : Tr n pl th sc L) (w : Int32) (h0 u0 : UInt64) (c0 : Int32) : ∀ (j k : Nat), n = k + j → ∀ fuel, j < fuel →
    ∃ h' u' c', lp (f_X8_manyNow_b1 w (ii n) th sc ta re h0 u0 c0 pl hf pw gl) fuel (ii k, ii (nl pw k)) = some (maS n pl hf pw gl th sc ta re L w, h', u', c') := by
  have hn := hG.1
  intro j
  induction j with
  | zero =>
    intro k hk fuel hf9
    obtain ⟨f, rfl⟩ := Nat.exists_eq_succ_of_ne_zero (show fuel ≠ 0 by omega)
    have hkn : k = n := by omega
    subst hkn
    have hb2 := many8_b2 (re := re) hG hT w h0 u0 c0 (ii k) L 0 th hT (by omega) rfl 1000 (by have := hT.2.2; omega)
    rw [lp_st]
    generalize lp (f_X8_manyNow_b1 w (ii k) th sc ta re h0 u0 c0 pl hf pw gl) f = K
    unfold f_X8_manyNow_b1
    rw [if_pos (show ii k ≤ ii k from (ii_le (by omega) (by omega)).mpr (by omega)), bd_s (next_hd hn hT)]
    exact hb2
  | succ j ih =>
    intro k hk fuel hf9
    obtain ⟨f, rfl⟩ := Nat.exists_eq_succ_of_ne_zero (show fuel ≠ 0 by omega)
    have ih := ih (k + 1) (by omega) f (by omega)
    rw [lp_st]
    generalize lp (f_X8_manyNow_b1 w (ii n) th sc ta re h0 u0 c0 pl hf pw gl) f = K at ih ⊢
    unfold f_X8_manyNow_b1
    have hv : vin (ii k) 8 = true := vin_ii (by omega) (by omega)
    rw [if_neg (show ¬ ii n ≤ ii k from fun h => absurd ((ii_le (by omega) (by omega)).mp h) (by omega)), gd_t hv]
    simp only [ii_cl (show k < 100000 by omega), ii_s]
    by_cases e : pw k = 0
    · rw [if_pos e]
      rw [show nl pw (k + 1) = nl pw k by show nl pw k + _ = _; rw [if_pos e]; rfl] at ih
      rw [show ii (nl pw k) + (0 : Int32) = ii (nl pw k) from Int32.add_zero _]
      exact ih
    · rw [if_neg e]
      rw [show nl pw (k + 1) = nl pw k + 1 by show nl pw k + _ = _; rw [if_neg e]] at ih
      exact ih
theorem many8 (hG : Gd n pl hf pw gl th sc ta) (hT : Tr n pl th sc L) (w : Int32) (h0 u0 : UInt64) (c0 : Int32) : ∃ h' u' c', f_X8_manyNow w (ii n) th sc ta re h0 u0 c0 pl hf pw gl = some (maS n pl hf pw gl th sc ta re L w, h', u', c') := many8_b1 hG hT w h0 u0 c0 n 0 (by omega) 1000 (by have := hG.1; omega)
theorem LM_many (hG : Gd n pl hf pw gl th sc ta) (w t1 t2 t3 : Int32) (N P H : Nat → Int32) (B : Nat → UInt64) (f1 : Int32) (g g' rh ru : UInt64) (rc : Int32) (C : Nat → Int32) (b1 b2 b3 b4 : UInt64) (o1 : Int32) (o2 : UInt64) (o : Int64) (h0 u0 : UInt64) (c0 : Int32) : ∃ k x1 x2 x3 x4 x5 x6 x7 y1 y2 y3 y4 y5 y6 y7 z1 z2 z3 z4 z5 z6 o' v h' u' c', f_L_many w (ii n) th sc ta re pl hf pw gl t1 t2 t3 N P H B f1 g g' rh ru rc C b1 b2 b3 b4 o1 o2 o = some (k, x1, x2, x3, x4, x5, x6, x7, y1, y2, y3, y4, y5, y6, y7, z1, z2, z3, z4, z5, z6, o') ∧ f_X8_many w (ii n) th sc ta re h0 u0 c0 pl hf pw gl = some (v, k, h', u', c') ∧ (k = 0 → o' = v.toInt64) := by
  obtain ⟨L, hT⟩ := ex_tr hG sc
  unfold f_L_many f_X8_many f_X8_refuse
  rw [is8]
  by_cases q3 : (0 : Int32).toInt ≤ w.toInt ∧ w.toInt ≤ (9 : Int32).toInt
  · rw [if_pos q3]
    obtain ⟨z, hz⟩ := many6 (re := re) hG hT q3 t1 t2 t3 N P H B f1 g g' rh ru rc C b1 b2 b3 b4 o1 o2
    obtain ⟨h', u', c', h8⟩ := many8 (re := re) hG hT w h0 u0 c0
    simp only [bd_i]
    rw [hz, if_neg (show ¬ (1 : Int32) = 0 by decide), bd_s h8]
    exact ⟨0, _, _, _, _, _, _, _, _, _, _, _, _, _, _, _, _, _, _, _, _, _, _, _, _, _, rfl, rfl, fun _ => rfl⟩
  · rw [if_neg q3]
    refine ⟨1, t1, t2, t3, N, P, H, B, f1, g, g', rh, ru, rc, C, b1, b2, b3, b4, o1, o2, o, 0, h0, u0, c0, ?_, rfl, fun h => absurd h (by decide)⟩
    unfold f_X6_many
    rw [needWhat6, if_neg q3]
    rfl
end PureMany
