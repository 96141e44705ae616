/-! PURE DIGEST. -/
section PureDigest
variable {n : Nat} {pl hf pw gl : Nat → Int32} {th sc ta re c : Int32} {L : List Nat}
theorem bn_s {α β : Type} {x : Option (String ⊕ α)} {a : α} {k : α → Option β} (h : x = some (.inr a)) : bn x k = k a := by rw [h]; rfl
def ad (d v : Int64) : Int64 := d * 31 + v
def dd (v : UInt64) : Int64 := FP.d2l (FP.dmul 4661225614328463360 v)
def fit (F : Nat → Int64 → Int64) : Nat → Nat → Int64 → Int64
  | 0, _, d => d
  | j + 1, k, d => fit F j (k + 1) (F k d)
theorem addW (d v : Int64) : f_X6_addWhole d v = some (ad d v) := rfl
theorem add8 (d v : Int64) : f_X8_add v d = some (ad d v) := rfl
theorem dd_n {v : UInt64} (h : mg v 2000) : n64 (FP.dmul 4661225614328463360 v) = true := mg_n (mg_mul (Ka := 1036) (by unfold mg; decide) h (by decide) (by decide)) (by decide)
theorem addD {v : UInt64} (h : mg v 2000) (d : Int64) : f_X6_addDouble d v = some (ad d (dd v)) := by
  unfold f_X6_addDouble
  rw [gd_t (dd_n h)]
  rfl
theorem addP {v : UInt64} (h : mg v 2000) (d : Int64) : f_X8_addPoint v d = some (ad d (dd v)) := by
  unfold f_X8_addPoint
  rw [gd_t (dd_n h)]
  rfl
theorem dd_pl (v : UInt64) : dd (pl_ v) = dd v := pl_d2l v
theorem inR {k hi : Nat} (hk : k ≤ hi) (hh : hi < 100000) {H : Int32} (hH : H.toInt = (hi : Int)) : (0 : Int32).toInt ≤ (ii k).toInt ∧ (ii k).toInt ≤ H.toInt := by
  rw [ii_int (by omega), hH]
  exact ⟨by show (0 : Int) ≤ _; omega, by omega⟩
/-! a piece -/
def tP (pl hf pw gl : Nat → Int32) (th sc ta : Int32) (L : List Nat) (k : Nat) (d : Int64) : Int64 := ad (ad d (thS pl (fanG pl hf pw gl 1 th sc ta L) L k).toInt64) (ii (cm (fanG pl hf pw gl 1 th sc ta (wo (ii k) L)) 21)).toInt64
def fS (pw gl : Nat → Int32) (k : Nat) : Nat → Int64 → Int64 := fun i d => ad d (dd (pl_ (bs pw gl (ii i) k)))
def fO (pl hf pw gl : Nat → Int32) (L : List Nat) (k : Nat) : Nat → Int64 → Int64 := fun i d => ad d (ofS pl hf pw gl L k (ii i)).toInt64
def pcS (pl hf pw gl : Nat → Int32) (th sc ta : Int32) (L : List Nat) : Nat → Int64 → Int64 := fun k d => tP pl hf pw gl th sc ta L k (fit (fS pw gl k) 3 0 (fit (fO pl hf pw gl L k) 5 0 d))
theorem pc6_b2 (hG : Gd n pl hf pw gl th sc ta) (hT : Tr n pl th sc L) {k : Nat} (hk : k < n) (f1 : Int32) (g g' rh ru : UInt64) (rc : Int32) (C : Nat → Int32) (s : _) : ∀ (j i : Nat), i + j = 3 → ∀ (d : Int64) (fuel : Nat), j < fuel →
    ∃ z, lp (f_X6_addPiece_b2 (ii k) (ii n) th sc ta pl hf pw gl f1 g g' rh ru rc C s) fuel (ii i, d) = some (tP pl hf pw gl th sc ta L k (fit (fS pw gl k) j i d), z) := by
  intro j
  induction j with
  | zero =>
    intro i hi d fuel hf9
    obtain ⟨f, rfl⟩ := Nat.exists_eq_succ_of_ne_zero (show fuel ≠ 0 by omega)
    rw [lp_st]
    generalize lp (f_X6_addPiece_b2 (ii k) (ii n) th sc ta pl hf pw gl f1 g g' rh ru rc C s) f = K
    unfold f_X6_addPiece_b2
    rw [if_pos (show (2 : Int32) < ii i from (ii_lt (a := 2) (by omega) (by omega)).mpr (by omega))]
    obtain ⟨z1, h1⟩ := through6 hG hT hk s.2.2.2.2.2.1 s.2.2.2.2.2.2.1 s.2.2.2.2.2.2.2.1 s.2.2.2.2.2.2.2.2 f1 g g' rh ru rc C
    rw [bn_s h1]
    simp only [addW, bd_i]
    obtain ⟨z2, h2⟩ := without6 hG hT hk z1.2.2.2.1 z1.2.2.2.2.1 z1.2.2.2.2.2.1 z1.2.2.2.2.2.2.1 z1.2.2.2.2.2.2.2.2.1 z1.2.2.2.2.2.2.2.2.2.1 z1.2.2.2.2.2.2.2.2.2.2.1 z1.2.2.2.2.2.2.2.2.2.2.2.1 z1.2.2.2.2.2.2.2.2.2.2.2.2.1 z1.2.2.2.2.2.2.2.2.2.2.2.2.2
    rw [bn_s h2]
    exact ⟨_, rfl⟩
  | succ j ih =>
    intro i hi d fuel hf9
    obtain ⟨f, rfl⟩ := Nat.exists_eq_succ_of_ne_zero (show fuel ≠ 0 by omega)
    have ih := ih (i + 1) (by omega) (fS pw gl k i d) f (by omega)
    rw [lp_st]
    generalize lp (f_X6_addPiece_b2 (ii k) (ii n) th sc ta pl hf pw gl f1 g g' rh ru rc C s) f = K at ih ⊢
    unfold f_X6_addPiece_b2
    have hr := inR (show i ≤ 2 by omega) (by omega) (H := 2) rfl
    rw [if_neg (show ¬ (2 : Int32) < ii i from fun h => absurd ((ii_lt (a := 2) (by omega) (by omega)).mp h) (by omega)), bn_s (str6 hG hk hr), bd_s (addD (mg_mono (mg_pl (bv_mg (hG.pgs k hk) hr) (by decide)) (by decide)) d), ii_s]
    exact ih
theorem pc6_b1 (hG : Gd n pl hf pw gl th sc ta) (hT : Tr n pl th sc L) {k : Nat} (hk : k < n) (f1 : Int32) (g g' rh ru : UInt64) (rc : Int32) (C : Nat → Int32) : ∀ (j i : Nat), i + j = 5 → ∀ (d : Int64) (s : _) (fuel : Nat), j < fuel →
    ∃ z, lp (f_X6_addPiece_b1 (ii k) (ii n) th sc ta pl hf pw gl f1 g g' rh ru rc C) fuel (ii i, d, s) = some (tP pl hf pw gl th sc ta L k (fit (fS pw gl k) 3 0 (fit (fO pl hf pw gl L k) j i d)), z) := by
  intro j
  induction j with
  | zero =>
    intro i hi d s fuel hf9
    obtain ⟨f, rfl⟩ := Nat.exists_eq_succ_of_ne_zero (show fuel ≠ 0 by omega)
    rw [lp_st]
    generalize lp (f_X6_addPiece_b1 (ii k) (ii n) th sc ta pl hf pw gl f1 g g' rh ru rc C) f = K
    unfold f_X6_addPiece_b1
    rw [if_pos (show (4 : Int32) < ii i from (ii_lt (a := 4) (by omega) (by omega)).mpr (by omega))]
    exact pc6_b2 hG hT hk f1 g g' rh ru rc C _ 3 0 (by omega) d 1000 (by omega)
  | succ j ih =>
    intro i hi d s fuel hf9
    obtain ⟨f, rfl⟩ := Nat.exists_eq_succ_of_ne_zero (show fuel ≠ 0 by omega)
    have ih := fun s => ih (i + 1) (by omega) (fO pl hf pw gl L k i d) s f (by omega)
    rw [lp_st]
    generalize lp (f_X6_addPiece_b1 (ii k) (ii n) th sc ta pl hf pw gl f1 g g' rh ru rc C) f = K at ih ⊢
    unfold f_X6_addPiece_b1
    have hr := inR (show i ≤ 4 by omega) (by omega) (H := 4) rfl
    obtain ⟨z, hz⟩ := of6 hG hT hk hr s.1 s.2.1 s.2.2.1 s.2.2.2.1 s.2.2.2.2.1 s.2.2.2.2.2.1 s.2.2.2.2.2.2
    rw [if_neg (show ¬ (4 : Int32) < ii i from fun h => absurd ((ii_lt (a := 4) (by omega) (by omega)).mp h) (by omega)), bn_s hz, bd_s (addW _ _), ii_s]
    exact ih _
theorem pc6 (hG : Gd n pl hf pw gl th sc ta) (hT : Tr n pl th sc L) {k : Nat} (hk : k < n) (d : Int64) (t1 t2 t3 : Int32) (N P H : Nat → Int32) (B : Nat → UInt64) (f1 : Int32) (g g' rh ru : UInt64) (rc : Int32) (C : Nat → Int32) : ∃ z, f_X6_addPiece d (ii k) (ii n) th sc ta pl hf pw gl t1 t2 t3 N P H B f1 g g' rh ru rc C = some (pcS pl hf pw gl th sc ta L k d, z) :=
  pc6_b1 hG hT hk f1 g g' rh ru rc C 5 0 (by omega) d (t1, t2, t3, N, P, H, B) 1000 (by omega)
theorem pc8_b8 (hG : Gd n pl hf pw gl th sc ta) (hT : Tr n pl th sc L) {k : Nat} (hk : k < n) (h0 u0 : UInt64) (c0 : Int32) (d0 : Int64) (K : _) : ∀ (j i : Nat), i + j = 3 → ∀ (d : Int64) (fuel : Nat), j < fuel →
    ∃ h' u' c', lp (f_X8_digest_b8 (ii n) th sc ta pl hf pw gl (ii k, h0, u0, c0, d0) K) fuel (ii i, d) = K (ii (k + 1), h', u', c', tP pl hf pw gl th sc ta L k (fit (fS pw gl k) j i d)) := by
  intro j
  induction j with
  | zero =>
    intro i hi d fuel hf9
    obtain ⟨f, rfl⟩ := Nat.exists_eq_succ_of_ne_zero (show fuel ≠ 0 by omega)
    rw [lp_st]
    generalize lp (f_X8_digest_b8 (ii n) th sc ta pl hf pw gl (ii k, h0, u0, c0, d0) K) f = K9
    obtain ⟨a1, a2, a3, h1⟩ := through8 hG hT hk h0 u0 c0
    obtain ⟨b1, b2, b3, h2⟩ := light_sp (p := ii k) (hf := hf) hG.1 hG.pgs hT hG.top a1 a2 a3
    unfold f_X8_digest_b8
    rw [if_pos (show (3 : Int32) ≤ ii i from (ii_le (a := 3) (by omega) (by omega)).mpr (by omega)), bd_s h1]
    simp only [add8, bd_i]
    rw [bd_s h2]
    simp only [add8, bd_i, ii_s]
    exact ⟨_, _, _, rfl⟩
  | succ j ih =>
    intro i hi d fuel hf9
    obtain ⟨f, rfl⟩ := Nat.exists_eq_succ_of_ne_zero (show fuel ≠ 0 by omega)
    have ih := ih (i + 1) (by omega) (fS pw gl k i d) f (by omega)
    rw [lp_st]
    generalize lp (f_X8_digest_b8 (ii n) th sc ta pl hf pw gl (ii k, h0, u0, c0, d0) K) f = K9 at ih ⊢
    unfold f_X8_digest_b8
    have hr := inR (show i ≤ 2 by omega) (by omega) (H := 2) rfl
    have hm := bv_mg (hG.pgs k hk) (c := ii i) hr
    rw [if_neg (show ¬ (3 : Int32) ≤ ii i from fun h => absurd ((ii_le (a := 3) (by omega) (by omega)).mp h) (by omega)), bd_s (str8 hG hk hr), bd_s (addP (mg_mono hm (by decide)) d), ii_s]
    rw [show ad d (dd (bs pw gl (ii i) k)) = fS pw gl k i d by show _ = ad d (dd (pl_ _)); rw [dd_pl]]
    exact ih
theorem pc8_b7 (hG : Gd n pl hf pw gl th sc ta) (hT : Tr n pl th sc L) {k : Nat} (hk : k < n) (h0 u0 : UInt64) (c0 : Int32) (d0 : Int64) (K : _) : ∀ (j i : Nat), i + j = 5 → ∀ (d : Int64) (fuel : Nat), j < fuel →
    ∃ h' u' c', lp (f_X8_digest_b7 (ii n) th sc ta pl hf pw gl (ii k, h0, u0, c0, d0) K) fuel (ii i, d) = K (ii (k + 1), h', u', c', tP pl hf pw gl th sc ta L k (fit (fS pw gl k) 3 0 (fit (fO pl hf pw gl L k) j i d))) := by
  intro j
  induction j with
  | zero =>
    intro i hi d fuel hf9
    obtain ⟨f, rfl⟩ := Nat.exists_eq_succ_of_ne_zero (show fuel ≠ 0 by omega)
    rw [lp_st]
    generalize lp (f_X8_digest_b7 (ii n) th sc ta pl hf pw gl (ii k, h0, u0, c0, d0) K) f = K9
    unfold f_X8_digest_b7
    rw [if_pos (show (5 : Int32) ≤ ii i from (ii_le (a := 5) (by omega) (by omega)).mpr (by omega))]
    exact pc8_b8 hG hT hk h0 u0 c0 d0 K 3 0 (by omega) d 1000 (by omega)
  | succ j ih =>
    intro i hi d fuel hf9
    obtain ⟨f, rfl⟩ := Nat.exists_eq_succ_of_ne_zero (show fuel ≠ 0 by omega)
    have ih := ih (i + 1) (by omega) (fO pl hf pw gl L k i d) f (by omega)
    rw [lp_st]
    generalize lp (f_X8_digest_b7 (ii n) th sc ta pl hf pw gl (ii k, h0, u0, c0, d0) K) f = K9 at ih ⊢
    unfold f_X8_digest_b7
    rw [if_neg (show ¬ (5 : Int32) ≤ ii i from fun h => absurd ((ii_le (a := 5) (by omega) (by omega)).mp h) (by omega)), bd_s (of8 hG hT hk (ii i)), bd_s (add8 _ _), ii_s]
    exact ih
/-! a colour -/
def fT (T : UInt64 × UInt64 × UInt64 × UInt64) : Nat → Int64 → Int64 := fun i d => ad d (dd (sel (ii i) T))
def fI (T : UInt64 × UInt64 × UInt64 × UInt64) : Nat → Int64 → Int64 := fun i d => ad d (dd (imS T (ii i)))
def tC (pl hf pw gl : Nat → Int32) (th sc ta : Int32) (L : List Nat) (c : Int32) (d : Int64) : Int64 := ad d (dd (blG (fanG pl hf pw gl c th sc ta L)))
def coS (pl hf pw gl : Nat → Int32) (th sc ta : Int32) (L : List Nat) : Nat → Int64 → Int64 := fun k d => tC pl hf pw gl th sc ta L (ii k) (fit (fI (tbS pl (bs pw gl (ii k)) L th)) 5 0 (fit (fT (tbS pl (bs pw gl (ii k)) L th)) 4 0 d))
theorem co6_b2 (hG : Gd n pl hf pw gl th sc ta) (hT : Tr n pl th sc L) (hc : co c) (g g' rh ru : UInt64) (rc : Int32) (C : Nat → Int32) : ∀ (j i : Nat), i + j = 5 → ∀ (d : Int64) (s : _) (fuel : Nat), j < fuel →
    ∃ z, lp (f_X6_addColour_b2 c (ii n) th sc ta pl hf pw gl g g' rh ru rc C) fuel (ii i, d, s) = some (tC pl hf pw gl th sc ta L c (fit (fI (tbS pl (bs pw gl c) L th)) j i d), z) := by
  intro j
  induction j with
  | zero =>
    intro i hi d s fuel hf9
    obtain ⟨f, rfl⟩ := Nat.exists_eq_succ_of_ne_zero (show fuel ≠ 0 by omega)
    rw [lp_st]
    generalize lp (f_X6_addColour_b2 c (ii n) th sc ta pl hf pw gl g g' rh ru rc C) f = K
    unfold f_X6_addColour_b2
    obtain ⟨z1, h1⟩ := blur6 hG hT hc s.2.2.2.1 s.2.2.2.2.1 s.2.2.2.2.2.1 s.2.2.2.2.2.2.1 g g' rh ru rc C
    rw [if_pos (show (4 : Int32) < ii i from (ii_lt (a := 4) (by omega) (by omega)).mpr (by omega)), bn_s h1, bd_s (addD (mg_mono (blG_ok (fanG_ok hG hT hc)).1 (by decide)) _)]
    exact ⟨_, rfl⟩
  | succ j ih =>
    intro i hi d s fuel hf9
    obtain ⟨f, rfl⟩ := Nat.exists_eq_succ_of_ne_zero (show fuel ≠ 0 by omega)
    have ih := fun s => ih (i + 1) (by omega) (fI (tbS pl (bs pw gl c) L th) i d) s f (by omega)
    rw [lp_st]
    generalize lp (f_X6_addColour_b2 c (ii n) th sc ta pl hf pw gl g g' rh ru rc C) f = K at ih ⊢
    unfold f_X6_addColour_b2
    have hr := inR (show i ≤ 4 by omega) (by omega) (H := 4) rfl
    obtain ⟨z1, h1⟩ := image6 hG hT hc hr s.2.2.2.1 s.2.2.2.2.1 s.2.2.2.2.2.1 s.2.2.2.2.2.2.1
    rw [if_neg (show ¬ (4 : Int32) < ii i from fun h => absurd ((ii_lt (a := 4) (by omega) (by omega)).mp h) (by omega)), bn_s h1, bd_s (addD (mg_mono (imS_mg (tok hG hc hT) _) (by decide)) _), ii_s]
    exact ih _
theorem co6_b1 (hG : Gd n pl hf pw gl th sc ta) (hT : Tr n pl th sc L) (hc : co c) (g g' rh ru : UInt64) (rc : Int32) (C : Nat → Int32) : ∀ (j i : Nat), i + j = 4 → ∀ (d : Int64) (s : _) (fuel : Nat), j < fuel →
    ∃ z, lp (f_X6_addColour_b1 c (ii n) th sc ta pl hf pw gl g g' rh ru rc C) fuel (ii i, d, s) = some (tC pl hf pw gl th sc ta L c (fit (fI (tbS pl (bs pw gl c) L th)) 5 0 (fit (fT (tbS pl (bs pw gl c) L th)) j i d)), z) := by
  intro j
  induction j with
  | zero =>
    intro i hi d s fuel hf9
    obtain ⟨f, rfl⟩ := Nat.exists_eq_succ_of_ne_zero (show fuel ≠ 0 by omega)
    rw [lp_st]
    generalize lp (f_X6_addColour_b1 c (ii n) th sc ta pl hf pw gl g g' rh ru rc C) f = K
    unfold f_X6_addColour_b1
    rw [if_pos (show (3 : Int32) < ii i from (ii_lt (a := 3) (by omega) (by omega)).mpr (by omega))]
    exact co6_b2 hG hT hc g g' rh ru rc C 5 0 (by omega) d _ 1000 (by omega)
  | succ j ih =>
    intro i hi d s fuel hf9
    obtain ⟨f, rfl⟩ := Nat.exists_eq_succ_of_ne_zero (show fuel ≠ 0 by omega)
    have ih := fun s => ih (i + 1) (by omega) (fT (tbS pl (bs pw gl c) L th) i d) s f (by omega)
    rw [lp_st]
    generalize lp (f_X6_addColour_b1 c (ii n) th sc ta pl hf pw gl g g' rh ru rc C) f = K at ih ⊢
    unfold f_X6_addColour_b1
    have hr := inR (show i ≤ 3 by omega) (by omega) (H := 3) rfl
    obtain ⟨z1, h1⟩ := table6 hG hT hc hr s.2.2.2.1 s.2.2.2.2.1 s.2.2.2.2.2.1 s.2.2.2.2.2.2.1
    rw [if_neg (show ¬ (3 : Int32) < ii i from fun h => absurd ((ii_lt (a := 3) (by omega) (by omega)).mp h) (by omega)), bn_s h1, bd_s (addD (mg_mono (sel_ok (tok hG hc hT) _).1 (by decide)) _), ii_s]
    exact ih _
theorem co6 (hG : Gd n pl hf pw gl th sc ta) (hT : Tr n pl th sc L) {k : Nat} (hc : co (ii k)) (d : Int64) (t1 t2 t3 : Int32) (N P H : Nat → Int32) (B : Nat → UInt64) (g g' rh ru : UInt64) (rc : Int32) (C : Nat → Int32) (b1 b2 b3 b4 : UInt64) : ∃ z, f_X6_addColour d (ii k) (ii n) th sc ta pl hf pw gl t1 t2 t3 N P H B g g' rh ru rc C b1 b2 b3 b4 = some (coS pl hf pw gl th sc ta L k d, z) :=
  co6_b1 hG hT hc g g' rh ru rc C 4 0 (by omega) d (t1, t2, t3, N, P, H, B, b1, b2, b3, b4) 1000 (by omega)
theorem co8_b6 (hG : Gd n pl hf pw gl th sc ta) (hT : Tr n pl th sc L) {k : Nat} (hk : k < 3) (h0 u0 : UInt64) (c0 : Int32) (d0 : Int64) (K : _) : ∀ (j i : Nat), i + j = 5 → ∀ (d : Int64) (fuel : Nat), j < fuel →
    ∃ h' u' c', lp (f_X8_digest_b6 (ii n) th sc ta pl hf pw gl (ii k, h0, u0, c0, d0) K) fuel (ii i, d) = K (ii (k + 1), h', u', c', tC pl hf pw gl th sc ta L (ii k) (fit (fI (tbS pl (bs pw gl (ii k)) L th)) j i d)) := by
  have hc : co (ii k) := inR (show k ≤ 2 by omega) (by omega) (H := 2) rfl
  intro j
  induction j with
  | zero =>
    intro i hi d fuel hf9
    obtain ⟨f, rfl⟩ := Nat.exists_eq_succ_of_ne_zero (show fuel ≠ 0 by omega)
    rw [lp_st]
    generalize lp (f_X8_digest_b6 (ii n) th sc ta pl hf pw gl (ii k, h0, u0, c0, d0) K) f = K9
    obtain ⟨a1, a2, a3, h1⟩ := blur_sp (hf := hf) hG.1 hG.pgs hc hT hG.top h0 u0 c0
    have hR := fanG_ok hG hT hc
    unfold f_X8_digest_b6
    rw [if_pos (show (5 : Int32) ≤ ii i from (ii_le (a := 5) (by omega) (by omega)).mpr (by omega)), bd_s h1, gd_t (by decide), gd_t (mg_n (blS_ok hR).1 (by decide))]
    simp only []
    rw [show dmax FP.dconst0 (blS (fan pl hf (bs pw gl (ii k)) sc L th (topOf ta))) = blG (fanG pl hf pw gl (ii k) th sc ta L) from max_bl hR, bd_s (addP (mg_mono (blG_ok hR).1 (by decide)) _), ii_s]
    exact ⟨_, _, _, rfl⟩
  | succ j ih =>
    intro i hi d fuel hf9
    obtain ⟨f, rfl⟩ := Nat.exists_eq_succ_of_ne_zero (show fuel ≠ 0 by omega)
    have ih := ih (i + 1) (by omega) (fI (tbS pl (bs pw gl (ii k)) L th) i d) f (by omega)
    rw [lp_st]
    generalize lp (f_X8_digest_b6 (ii n) th sc ta pl hf pw gl (ii k, h0, u0, c0, d0) K) f = K9 at ih ⊢
    unfold f_X8_digest_b6
    have hr := inR (show i ≤ 4 by omega) (by omega) (H := 4) rfl
    rw [if_neg (show ¬ (5 : Int32) ≤ ii i from fun h => absurd ((ii_le (a := 5) (by omega) (by omega)).mp h) (by omega)), bd_s (image8 hG hT hc hr), bd_s (addP (mg_mono (imS_mg (tok hG hc hT) _) (by decide)) _), ii_s]
    exact ih
theorem co8_b5 (hG : Gd n pl hf pw gl th sc ta) (hT : Tr n pl th sc L) {k : Nat} (hk : k < 3) (h0 u0 : UInt64) (c0 : Int32) (d0 : Int64) (K : _) : ∀ (j i : Nat), i + j = 4 → ∀ (d : Int64) (fuel : Nat), j < fuel →
    ∃ h' u' c', lp (f_X8_digest_b5 (ii n) th sc ta pl hf pw gl (ii k, h0, u0, c0, d0) K) fuel (ii i, d) = K (ii (k + 1), h', u', c', tC pl hf pw gl th sc ta L (ii k) (fit (fI (tbS pl (bs pw gl (ii k)) L th)) 5 0 (fit (fT (tbS pl (bs pw gl (ii k)) L th)) j i d))) := by
  have hc : co (ii k) := inR (show k ≤ 2 by omega) (by omega) (H := 2) rfl
  intro j
  induction j with
  | zero =>
    intro i hi d fuel hf9
    obtain ⟨f, rfl⟩ := Nat.exists_eq_succ_of_ne_zero (show fuel ≠ 0 by omega)
    rw [lp_st]
    generalize lp (f_X8_digest_b5 (ii n) th sc ta pl hf pw gl (ii k, h0, u0, c0, d0) K) f = K9
    unfold f_X8_digest_b5
    rw [if_pos (show (4 : Int32) ≤ ii i from (ii_le (a := 4) (by omega) (by omega)).mpr (by omega))]
    exact co8_b6 hG hT hk h0 u0 c0 d0 K 5 0 (by omega) d 1000 (by omega)
  | succ j ih =>
    intro i hi d fuel hf9
    obtain ⟨f, rfl⟩ := Nat.exists_eq_succ_of_ne_zero (show fuel ≠ 0 by omega)
    have ih := ih (i + 1) (by omega) (fT (tbS pl (bs pw gl (ii k)) L th) i d) f (by omega)
    rw [lp_st]
    generalize lp (f_X8_digest_b5 (ii n) th sc ta pl hf pw gl (ii k, h0, u0, c0, d0) K) f = K9 at ih ⊢
    unfold f_X8_digest_b5
    rw [if_neg (show ¬ (4 : Int32) ≤ ii i from fun h => absurd ((ii_le (a := 4) (by omega) (by omega)).mp h) (by omega)), bd_s (table_sp hG.1 hG.pgs hc (ii i) hT), bd_s (addP (mg_mono (sel_ok (tok hG hc hT) _).1 (by decide)) _), ii_s]
    exact ih
/-! the end -/
noncomputable def tR (n : Nat) (pl hf pw gl : Nat → Int32) (th sc ta : Int32) (L : List Nat) (d : Int64) : Int64 := ad (ad (ad d (dd (pl_ (opS pl hf (bs pw gl 1) L th).2))) (dd (apS (tbS pl (bs pw gl 0) L th) (tbS pl (bs pw gl 2) L th)))) (shS n pl hf pw gl th ta 1 L).toInt64
def raT (pl hf pw gl : Nat → Int32) (th sc : Int32) (L : List Nat) : Ray1 := rn pl hf (bs pw gl 1) sc L 0 th (FP.ddiv (FP.i2d 4) 4616189618054758400) (FP.ddiv (FP.i2d 10) 4636737291354636288)
def fR (r : Ray1) : Nat → Int64 → Int64 := fun i d => ad d (dd (raS r (ii i)))
noncomputable def diS (n : Nat) (pl hf pw gl : Nat → Int32) (th sc ta re : Int32) (L : List Nat) : Int64 := fit (fR (raT pl hf pw gl th sc L)) 3 0 (tR n pl hf pw gl th sc ta L (fit (coS pl hf pw gl th sc ta L) 3 0 (fit (pcS pl hf pw gl th sc ta L) n 0 (fit (fun i d => ad d (maS n pl hf pw gl th sc ta re L (ii i)).toInt64) 10 0 58313))))
theorem di6_b4 (hG : Gd n pl hf pw gl th sc ta) (hT : Tr n pl th sc L) (o4 o8 o12 : _) : ∀ (j i : Nat), i + j = 3 → ∀ (d : Int64) (s : _) (fuel : Nat), j < fuel →
    ∃ z, lp (f_X6_digest_b4 (ii n) th sc pl hf pw gl o4 o8 o12) fuel (ii i, d, s) = some (fit (fR (raT pl hf pw gl th sc L)) j i d, z) := by
  intro j
  induction j with
  | zero =>
    intro i hi d s fuel hf9
    obtain ⟨f, rfl⟩ := Nat.exists_eq_succ_of_ne_zero (show fuel ≠ 0 by omega)
    rw [lp_st]
    generalize lp (f_X6_digest_b4 (ii n) th sc pl hf pw gl o4 o8 o12) f = K
    unfold f_X6_digest_b4
    rw [if_pos (show (2 : Int32) < ii i from (ii_lt (a := 2) (by omega) (by omega)).mpr (by omega))]
    exact ⟨_, rfl⟩
  | succ j ih =>
    intro i hi d s fuel hf9
    obtain ⟨f, rfl⟩ := Nat.exists_eq_succ_of_ne_zero (show fuel ≠ 0 by omega)
    have ih := fun s => ih (i + 1) (by omega) (fR (raT pl hf pw gl th sc L) i d) s f (by omega)
    rw [lp_st]
    generalize lp (f_X6_digest_b4 (ii n) th sc pl hf pw gl o4 o8 o12) f = K at ih ⊢
    unfold f_X6_digest_b4
    have hr := inR (show i ≤ 2 by omega) (by omega) (H := 2) rfl
    obtain ⟨z, hz⟩ := ray6 hG hT (a := 4) (u := 10) (w := ii i) (by decide) (by decide) co1 hr s.2.2.2.1 s.2.2.2.2.1 s.2.2.2.2.2.1 s.2.2.2.2.2.2.1
    have hm := (ray8 hG hT (a := 4) (u := 10) (w := ii i) (by decide) (by decide) co1).2
    rw [if_neg (show ¬ (2 : Int32) < ii i from fun h => absurd ((ii_lt (a := 2) (by omega) (by omega)).mp h) (by omega)), bn_s hz, bd_s (addD (mg_mono hm (by decide)) _), ii_s]
    exact ih _
theorem di6_b3 (hG : Gd n pl hf pw gl th sc ta) (hT : Tr n pl th sc L) (v1 v2 : UInt64) (v3 : Int32) : ∀ (j i : Nat), i + j = 3 → ∀ (d : Int64) (s : _) (fuel : Nat), j < fuel →
    ∃ z, lp (f_X6_digest_b3 (ii n) th sc ta pl hf pw gl v1 v2 v3) fuel (ii i, d, s) = some (fit (fR (raT pl hf pw gl th sc L)) 3 0 (tR n pl hf pw gl th sc ta L (fit (coS pl hf pw gl th sc ta L) j i d)), z) := by
  intro j
  induction j with
  | zero =>
    intro i hi d s fuel hf9
    obtain ⟨f, rfl⟩ := Nat.exists_eq_succ_of_ne_zero (show fuel ≠ 0 by omega)
    rw [lp_st]
    generalize lp (f_X6_digest_b3 (ii n) th sc ta pl hf pw gl v1 v2 v3) f = K
    unfold f_X6_digest_b3
    rw [if_pos (show (2 : Int32) < ii i from (ii_lt (a := 2) (by omega) (by omega)).mpr (by omega))]
    obtain ⟨z1, h1⟩ := grasp6 hG hT s.2.2.2.1 s.2.2.2.2.1 s.2.2.2.2.2.1 s.2.2.2.2.2.2.1
    rw [bd_s h1, bd_s (addD (mg_mono (mg_pl (opS_okG hG hT) (by decide)) (by decide)) _)]
    obtain ⟨z2, h2⟩ := apart6 hG hT z1.2.2.2.1 z1.2.2.2.2.1 z1.2.2.2.2.2.1 z1.2.2.2.2.2.2.1
    simp only []
    rw [bd_s h2, bd_s (addD (mg_mono (apS_mg (tok hG co0 hT) (tok hG co2 hT)) (by decide)) _)]
    obtain ⟨z3, h3⟩ := sharp6 hG hT co1 z2.2.2.2.1 z2.2.2.2.2.1 z2.2.2.2.2.2.1 z2.2.2.2.2.2.2.1 s.2.2.2.2.2.2.2.1 s.2.2.2.2.2.2.2.2.1 s.2.2.2.2.2.2.2.2.2.1 s.2.2.2.2.2.2.2.2.2.2.1 s.2.2.2.2.2.2.2.2.2.2.2.1 s.2.2.2.2.2.2.2.2.2.2.2.2.1 s.2.2.2.2.2.2.2.2.2.2.2.2.2.1
    simp only []
    rw [bn_s h3, bd_s (addW _ _)]
    exact di6_b4 hG hT _ _ _ 3 0 (by omega) _ _ 1000 (by omega)
  | succ j ih =>
    intro i hi d s fuel hf9
    obtain ⟨f, rfl⟩ := Nat.exists_eq_succ_of_ne_zero (show fuel ≠ 0 by omega)
    have ih := fun s => ih (i + 1) (by omega) (coS pl hf pw gl th sc ta L i d) s f (by omega)
    rw [lp_st]
    generalize lp (f_X6_digest_b3 (ii n) th sc ta pl hf pw gl v1 v2 v3) f = K at ih ⊢
    unfold f_X6_digest_b3
    have hr : co (ii i) := inR (show i ≤ 2 by omega) (by omega) (H := 2) rfl
    obtain ⟨z, hz⟩ := co6 hG hT hr d s.1 s.2.1 s.2.2.1 s.2.2.2.1 s.2.2.2.2.1 s.2.2.2.2.2.1 s.2.2.2.2.2.2.1 s.2.2.2.2.2.2.2.2.1 s.2.2.2.2.2.2.2.2.2.1 s.2.2.2.2.2.2.2.2.2.2.1 s.2.2.2.2.2.2.2.2.2.2.2.1 s.2.2.2.2.2.2.2.2.2.2.2.2.1 s.2.2.2.2.2.2.2.2.2.2.2.2.2.1 s.2.2.2.2.2.2.2.2.2.2.2.2.2.2.1 s.2.2.2.2.2.2.2.2.2.2.2.2.2.2.2.1 s.2.2.2.2.2.2.2.2.2.2.2.2.2.2.2.2.1 s.2.2.2.2.2.2.2.2.2.2.2.2.2.2.2.2.2
    rw [if_neg (show ¬ (2 : Int32) < ii i from fun h => absurd ((ii_lt (a := 2) (by omega) (by omega)).mp h) (by omega)), bd_s hz, ii_s]
    exact ih _
theorem di6_b2 (hG : Gd n pl hf pw gl th sc ta) (hT : Tr n pl th sc L) (v1 v2 : UInt64) (v3 : Int32) (s1 : _) : ∀ (j i : Nat), n = i + j → ∀ (d : Int64) (s : _) (fuel : Nat), j < fuel →
    ∃ z, lp (f_X6_digest_b2 (ii n) th sc ta pl hf pw gl v1 v2 v3 s1) fuel (ii i, d, s) = some (fit (fR (raT pl hf pw gl th sc L)) 3 0 (tR n pl hf pw gl th sc ta L (fit (coS pl hf pw gl th sc ta L) 3 0 (fit (pcS pl hf pw gl th sc ta L) j i d))), z) := by
  have hn := hG.1
  intro j
  induction j with
  | zero =>
    intro i hi d s fuel hf9
    obtain ⟨f, rfl⟩ := Nat.exists_eq_succ_of_ne_zero (show fuel ≠ 0 by omega)
    rw [lp_st]
    generalize lp (f_X6_digest_b2 (ii n) th sc ta pl hf pw gl v1 v2 v3 s1) f = K
    unfold f_X6_digest_b2
    rw [if_pos (show ii n ≤ ii i from (ii_le (by omega) (by omega)).mpr (by omega))]
    exact di6_b3 hG hT v1 v2 v3 3 0 (by omega) d _ 1000 (by omega)
  | succ j ih =>
    intro i hi d s fuel hf9
    obtain ⟨f, rfl⟩ := Nat.exists_eq_succ_of_ne_zero (show fuel ≠ 0 by omega)
    have ih := fun s => ih (i + 1) (by omega) (pcS pl hf pw gl th sc ta L i d) s f (by omega)
    rw [lp_st]
    generalize lp (f_X6_digest_b2 (ii n) th sc ta pl hf pw gl v1 v2 v3 s1) f = K at ih ⊢
    unfold f_X6_digest_b2
    obtain ⟨z, hz⟩ := pc6 hG hT (show i < n by omega) d s.1 s.2.1 s.2.2.1 s.2.2.2.1 s.2.2.2.2.1 s.2.2.2.2.2.1 s.2.2.2.2.2.2.1 s.2.2.2.2.2.2.2.1 s.2.2.2.2.2.2.2.2.1 s.2.2.2.2.2.2.2.2.2.1 s.2.2.2.2.2.2.2.2.2.2.1 s.2.2.2.2.2.2.2.2.2.2.2.1 s.2.2.2.2.2.2.2.2.2.2.2.2.1 s.2.2.2.2.2.2.2.2.2.2.2.2.2
    rw [if_neg (show ¬ ii n ≤ ii i from fun h => absurd ((ii_le (by omega) (by omega)).mp h) (by omega)), bd_s hz, ii_s]
    exact ih _
theorem di6_b1 (hG : Gd n pl hf pw gl th sc ta) (hT : Tr n pl th sc L) (v1 v2 : UInt64) (v3 : Int32) : ∀ (j i : Nat), i + j = 10 → ∀ (d : Int64) (s : _) (fuel : Nat), j < fuel →
    ∃ z, lp (f_X6_digest_b1 (ii n) th sc ta re pl hf pw gl v1 v2 v3) fuel (ii i, d, s) = some (fit (fR (raT pl hf pw gl th sc L)) 3 0 (tR n pl hf pw gl th sc ta L (fit (coS pl hf pw gl th sc ta L) 3 0 (fit (pcS pl hf pw gl th sc ta L) n 0 (fit (fun i d => ad d (maS n pl hf pw gl th sc ta re L (ii i)).toInt64) j i d)))), z) := by
  have hn := hG.1
  intro j
  induction j with
  | zero =>
    intro i hi d s fuel hf9
    obtain ⟨f, rfl⟩ := Nat.exists_eq_succ_of_ne_zero (show fuel ≠ 0 by omega)
    rw [lp_st]
    generalize lp (f_X6_digest_b1 (ii n) th sc ta re pl hf pw gl v1 v2 v3) f = K
    unfold f_X6_digest_b1
    rw [if_pos (show (9 : Int32) < ii i from (ii_lt (a := 9) (by omega) (by omega)).mpr (by omega))]
    exact di6_b2 hG hT v1 v2 v3 _ n 0 (by omega) d _ 1000 (by omega)
  | succ j ih =>
    intro i hi d s fuel hf9
    obtain ⟨f, rfl⟩ := Nat.exists_eq_succ_of_ne_zero (show fuel ≠ 0 by omega)
    have ih := fun s => ih (i + 1) (by omega) (ad d (maS n pl hf pw gl th sc ta re L (ii i)).toInt64) s f (by omega)
    rw [lp_st]
    generalize lp (f_X6_digest_b1 (ii n) th sc ta re pl hf pw gl v1 v2 v3) f = K at ih ⊢
    unfold f_X6_digest_b1
    have hr := inR (show i ≤ 9 by omega) (by omega) (H := 9) rfl
    obtain ⟨z, hz⟩ := many6 (re := re) hG hT hr s.1 s.2.1 s.2.2.1 s.2.2.2.1 s.2.2.2.2.1 s.2.2.2.2.2.1 s.2.2.2.2.2.2.1 s.2.2.2.2.2.2.2.1 s.2.2.2.2.2.2.2.2.1 s.2.2.2.2.2.2.2.2.2.1 s.2.2.2.2.2.2.2.2.2.2.1 s.2.2.2.2.2.2.2.2.2.2.2.1 s.2.2.2.2.2.2.2.2.2.2.2.2.1 s.2.2.2.2.2.2.2.2.2.2.2.2.2.1 s.2.2.2.2.2.2.2.2.2.2.2.2.2.2.1 s.2.2.2.2.2.2.2.2.2.2.2.2.2.2.2.1 s.2.2.2.2.2.2.2.2.2.2.2.2.2.2.2.2.1 s.2.2.2.2.2.2.2.2.2.2.2.2.2.2.2.2.2.1 s.2.2.2.2.2.2.2.2.2.2.2.2.2.2.2.2.2.2.1 s.2.2.2.2.2.2.2.2.2.2.2.2.2.2.2.2.2.2.2
    rw [if_neg (show ¬ (9 : Int32) < ii i from fun h => absurd ((ii_lt (a := 9) (by omega) (by omega)).mp h) (by omega)), bn_s hz, bd_s (addW _ _), ii_s]
    exact ih _
theorem digest6 (hG : Gd n pl hf pw gl th sc ta) (hT : Tr n pl th sc L) (t1 t2 t3 : Int32) (N P H : Nat → Int32) (B : Nat → UInt64) (v1 v2 : UInt64) (v3 f1 : Int32) (g g' rh ru : UInt64) (rc : Int32) (C : Nat → Int32) (b1 b2 b3 b4 : UInt64) (o1 : Int32) (o2 : UInt64) : ∃ z, f_X6_digest (ii n) th sc ta re pl hf pw gl t1 t2 t3 N P H B v1 v2 v3 f1 g g' rh ru rc C b1 b2 b3 b4 o1 o2 = some (diS n pl hf pw gl th sc ta re L, z) :=
  di6_b1 hG hT v1 v2 v3 10 0 (by omega) 58313 (t1, t2, t3, N, P, H, B, f1, g, g', rh, ru, rc, C, b1, b2, b3, b4, o1, o2) 1000 (by omega)
/-! the reference's digest -/
theorem di8_b4 (hG : Gd n pl hf pw gl th sc ta) (hT : Tr n pl th sc L) : ∀ (j i : Nat), i + j = 3 → ∀ (h0 u0 : UInt64) (c0 : Int32) (d : Int64) (fuel : Nat), j < fuel →
    ∃ h' u' c', lp (f_X8_digest_b4 (ii n) th sc pl hf pw gl) fuel (ii i, h0, u0, c0, d) = some (fit (fR (raT pl hf pw gl th sc L)) j i d, 0, h', u', c', fit (fR (raT pl hf pw gl th sc L)) j i d) := by
  intro j
  induction j with
  | zero =>
    intro i hi h0 u0 c0 d fuel hf9
    obtain ⟨f, rfl⟩ := Nat.exists_eq_succ_of_ne_zero (show fuel ≠ 0 by omega)
    rw [lp_st]
    generalize lp (f_X8_digest_b4 (ii n) th sc pl hf pw gl) f = K
    unfold f_X8_digest_b4
    rw [if_pos (show (3 : Int32) ≤ ii i from (ii_le (a := 3) (by omega) (by omega)).mpr (by omega))]
    exact ⟨_, _, _, rfl⟩
  | succ j ih =>
    intro i hi h0 u0 c0 d fuel hf9
    obtain ⟨f, rfl⟩ := Nat.exists_eq_succ_of_ne_zero (show fuel ≠ 0 by omega)
    have ih := fun h0 u0 c0 => ih (i + 1) (by omega) h0 u0 c0 (fR (raT pl hf pw gl th sc L) i d) f (by omega)
    rw [lp_st]
    generalize lp (f_X8_digest_b4 (ii n) th sc pl hf pw gl) f = K at ih ⊢
    unfold f_X8_digest_b4
    obtain ⟨⟨a1, a2, a3, h8⟩, hm⟩ := ray8 hG hT (a := 4) (u := 10) (w := ii i) (by decide) (by decide) co1
    rw [if_neg (show ¬ (3 : Int32) ≤ ii i from fun h => absurd ((ii_le (a := 3) (by omega) (by omega)).mp h) (by omega)), bd_s h8, bd_s (addP (mg_mono hm (by decide)) _), ii_s]
    exact ih _ _ _
theorem di8_b3 (hG : Gd n pl hf pw gl th sc ta) (hT : Tr n pl th sc L) : ∀ (j i : Nat), i + j = 3 → ∀ (h0 u0 : UInt64) (c0 : Int32) (d : Int64) (fuel : Nat), j < fuel →
    ∃ h' u' c' s', lp (f_X8_digest_b3 (ii n) th sc ta re pl hf pw gl) fuel (ii i, h0, u0, c0, d) = some (fit (fR (raT pl hf pw gl th sc L)) 3 0 (tR n pl hf pw gl th sc ta L (fit (coS pl hf pw gl th sc ta L) j i d)), 0, h', u', c', s') := by
  intro j
  induction j with
  | zero =>
    intro i hi h0 u0 c0 d fuel hf9
    obtain ⟨f, rfl⟩ := Nat.exists_eq_succ_of_ne_zero (show fuel ≠ 0 by omega)
    rw [lp_st]
    generalize lp (f_X8_digest_b3 (ii n) th sc ta re pl hf pw gl) f = K
    unfold f_X8_digest_b3
    rw [if_pos (show (3 : Int32) ≤ ii i from (ii_le (a := 3) (by omega) (by omega)).mpr (by omega)), bd_s (grasp8 hG hT), bd_s (addP (mg_mono (mg_pl (opS_okG hG hT) (by decide)) (by decide)) _), bd_s (apart8 hG hT), bd_s (addP (mg_mono (apS_mg (tok hG co0 hT) (tok hG co2 hT)) (by decide)) _)]
    obtain ⟨a1, a2, a3, h3⟩ := sharp8 (re := re) hG hT co1 (opS pl hf (bs pw gl 1) L th).2 u0 c0
    simp only []
    rw [bd_s h3, bd_s (add8 _ _)]
    obtain ⟨b1, b2, b3, h4⟩ := di8_b4 hG hT 3 0 (by omega) a1 a2 a3 (tR n pl hf pw gl th sc ta L d) 1000 (by omega)
    exact ⟨_, _, _, _, h4⟩
  | succ j ih =>
    intro i hi h0 u0 c0 d fuel hf9
    obtain ⟨f, rfl⟩ := Nat.exists_eq_succ_of_ne_zero (show fuel ≠ 0 by omega)
    have ih := fun h0 u0 c0 => ih (i + 1) (by omega) h0 u0 c0 (coS pl hf pw gl th sc ta L i d) f (by omega)
    rw [lp_st]
    generalize lp (f_X8_digest_b3 (ii n) th sc ta re pl hf pw gl) f = K at ih ⊢
    obtain ⟨a1, a2, a3, h5⟩ := co8_b5 hG hT (show i < 3 by omega) h0 u0 c0 d K 4 0 (by omega) d 1000 (by omega)
    unfold f_X8_digest_b3
    rw [if_neg (show ¬ (3 : Int32) ≤ ii i from fun h => absurd ((ii_le (a := 3) (by omega) (by omega)).mp h) (by omega))]
    show ∃ h' u' c' s', lp (f_X8_digest_b5 (ii n) th sc ta pl hf pw gl (ii i, h0, u0, c0, d) K) 1000 (ii 0, d) = _
    rw [h5]
    exact ih _ _ _
theorem di8_b2 (hG : Gd n pl hf pw gl th sc ta) (hT : Tr n pl th sc L) : ∀ (j i : Nat), n = i + j → ∀ (h0 u0 : UInt64) (c0 : Int32) (d : Int64) (fuel : Nat), j < fuel →
    ∃ h' u' c' s', lp (f_X8_digest_b2 (ii n) th sc ta re pl hf pw gl) fuel (ii i, h0, u0, c0, d) = some (fit (fR (raT pl hf pw gl th sc L)) 3 0 (tR n pl hf pw gl th sc ta L (fit (coS pl hf pw gl th sc ta L) 3 0 (fit (pcS pl hf pw gl th sc ta L) j i d))), 0, h', u', c', s') := by
  have hn := hG.1
  intro j
  induction j with
  | zero =>
    intro i hi h0 u0 c0 d fuel hf9
    obtain ⟨f, rfl⟩ := Nat.exists_eq_succ_of_ne_zero (show fuel ≠ 0 by omega)
    rw [lp_st]
    generalize lp (f_X8_digest_b2 (ii n) th sc ta re pl hf pw gl) f = K
    unfold f_X8_digest_b2
    rw [if_pos (show ii n ≤ ii i from (ii_le (by omega) (by omega)).mpr (by omega))]
    exact di8_b3 (re := re) hG hT 3 0 (by omega) h0 u0 c0 d 1000 (by omega)
  | succ j ih =>
    intro i hi h0 u0 c0 d fuel hf9
    obtain ⟨f, rfl⟩ := Nat.exists_eq_succ_of_ne_zero (show fuel ≠ 0 by omega)
    have ih := fun h0 u0 c0 => ih (i + 1) (by omega) h0 u0 c0 (pcS pl hf pw gl th sc ta L i d) f (by omega)
    rw [lp_st]
    generalize lp (f_X8_digest_b2 (ii n) th sc ta re pl hf pw gl) f = K at ih ⊢
    obtain ⟨a1, a2, a3, h5⟩ := pc8_b7 hG hT (show i < n by omega) h0 u0 c0 d K 5 0 (by omega) d 1000 (by omega)
    unfold f_X8_digest_b2
    rw [if_neg (show ¬ ii n ≤ ii i from fun h => absurd ((ii_le (by omega) (by omega)).mp h) (by omega))]
    show ∃ h' u' c' s', lp (f_X8_digest_b7 (ii n) th sc ta pl hf pw gl (ii i, h0, u0, c0, d) K) 1000 (ii 0, d) = _
    rw [h5]
    exact ih _ _ _
theorem di8_b1 (hG : Gd n pl hf pw gl th sc ta) (hT : Tr n pl th sc L) : ∀ (j i : Nat), i + j = 10 → ∀ (h0 u0 : UInt64) (c0 : Int32) (d : Int64) (fuel : Nat), j < fuel →
    ∃ h' u' c' s', lp (f_X8_digest_b1 (ii n) th sc ta re pl hf pw gl) fuel (ii i, h0, u0, c0, d) = some (fit (fR (raT pl hf pw gl th sc L)) 3 0 (tR n pl hf pw gl th sc ta L (fit (coS pl hf pw gl th sc ta L) 3 0 (fit (pcS pl hf pw gl th sc ta L) n 0 (fit (fun i d => ad d (maS n pl hf pw gl th sc ta re L (ii i)).toInt64) j i d)))), 0, h', u', c', s') := by
  have hn := hG.1
  intro j
  induction j with
  | zero =>
    intro i hi h0 u0 c0 d fuel hf9
    obtain ⟨f, rfl⟩ := Nat.exists_eq_succ_of_ne_zero (show fuel ≠ 0 by omega)
    rw [lp_st]
    generalize lp (f_X8_digest_b1 (ii n) th sc ta re pl hf pw gl) f = K
    unfold f_X8_digest_b1
    rw [if_pos (show (10 : Int32) ≤ ii i from (ii_le (a := 10) (by omega) (by omega)).mpr (by omega))]
    exact di8_b2 (re := re) hG hT n 0 (by omega) h0 u0 c0 d 1000 (by omega)
  | succ j ih =>
    intro i hi h0 u0 c0 d fuel hf9
    obtain ⟨f, rfl⟩ := Nat.exists_eq_succ_of_ne_zero (show fuel ≠ 0 by omega)
    have ih := fun h0 u0 c0 => ih (i + 1) (by omega) h0 u0 c0 (ad d (maS n pl hf pw gl th sc ta re L (ii i)).toInt64) f (by omega)
    rw [lp_st]
    generalize lp (f_X8_digest_b1 (ii n) th sc ta re pl hf pw gl) f = K at ih ⊢
    obtain ⟨a1, a2, a3, h8⟩ := many8 (re := re) hG hT (ii i) h0 u0 c0
    unfold f_X8_digest_b1
    rw [if_neg (show ¬ (10 : Int32) ≤ ii i from fun h => absurd ((ii_le (a := 10) (by omega) (by omega)).mp h) (by omega)), bd_s h8, bd_s (add8 _ _), ii_s]
    exact ih _ _ _
theorem digest8 (hG : Gd n pl hf pw gl th sc ta) (hT : Tr n pl th sc L) (h0 u0 : UInt64) (c0 : Int32) : ∃ h' u' c' s', f_X8_digest (ii n) th sc ta re h0 u0 c0 pl hf pw gl = some (diS n pl hf pw gl th sc ta re L, 0, h', u', c', s') :=
  di8_b1 (re := re) hG hT 10 0 (by omega) h0 u0 c0 58313 1000 (by omega)
theorem LM_digest (hG : Gd n pl hf pw gl th sc ta) (t1 t2 t3 : Int32) (N P H : Nat → Int32) (B : Nat → UInt64) (v1 v2 : UInt64) (v3 f1 : Int32) (g g' rh ru : UInt64) (rc : Int32) (C : Nat → Int32) (b1 b2 b3 b4 : UInt64) (o1 : Int32) (o2 h0 u0 : UInt64) (c0 : Int32) : ∃ v z h' u' c' s', f_X6_digest (ii n) th sc ta re pl hf pw gl t1 t2 t3 N P H B v1 v2 v3 f1 g g' rh ru rc C b1 b2 b3 b4 o1 o2 = some (v, z) ∧ f_X8_digest (ii n) th sc ta re h0 u0 c0 pl hf pw gl = some (v, 0, h', u', c', s') := by
  obtain ⟨L, hT⟩ := ex_tr hG sc
  obtain ⟨z, h1⟩ := digest6 (re := re) hG hT t1 t2 t3 N P H B v1 v2 v3 f1 g g' rh ru rc C b1 b2 b3 b4 o1 o2
  obtain ⟨a, b, c, d, h2⟩ := digest8 (re := re) hG hT h0 u0 c0
  exact ⟨_, z, a, b, c, d, h1, h2⟩
theorem LM_grasp (hG : Gd n pl hf pw gl th sc ta) (N P H : Nat → Int32) (B : Nat → UInt64) : ∃ v z h', f_X6_grasp (ii n) th sc pl hf pw gl N P H B = some (v, z) ∧ f_X8_grasp (ii n) th sc pl hf pw gl = some (v, 0, h') ∧ mg v 2000 := by
  obtain ⟨L, hT⟩ := ex_tr hG sc
  obtain ⟨z, h1⟩ := grasp6 hG hT N P H B
  refine ⟨_, z, (opS pl hf (bs pw gl 1) L th).2, h1, ?_, mg_mono (mg_pl (opS_okG hG hT) (by decide)) (by decide)⟩
  unfold f_X8_grasp
  rw [bd_s (grasp8 hG hT)]
theorem LM_apart (hG : Gd n pl hf pw gl th sc ta) (N P H : Nat → Int32) (B : Nat → UInt64) : ∃ v z, f_X6_apart (ii n) th sc pl hf pw gl N P H B = some (v, z) ∧ f_X8_apart (ii n) th sc pl pw gl = some (v, 0) ∧ mg v 2000 := by
  obtain ⟨L, hT⟩ := ex_tr hG sc
  obtain ⟨z, h1⟩ := apart6 hG hT N P H B
  refine ⟨_, z, h1, ?_, mg_mono (apS_mg (tok hG co0 hT) (tok hG co2 hT)) (by decide)⟩
  unfold f_X8_apart
  rw [bd_s (apart8 hG hT)]
end PureDigest
