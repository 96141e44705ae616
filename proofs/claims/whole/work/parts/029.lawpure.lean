/-! THE LAW, as a whole: every turn keeps both benches alike, and no turn answers false. -/
section PureLaw
abbrev LawS := Int32 × Int32 × Int32 × Int32 × Int32 × Int32 × (Nat → Int32) × (Nat → Int32) × (Nat → Int32) × (Nat → Int32) × Int32 × Int32 × Int32 × (Nat → Int32) × (Nat → Int32) × (Nat → Int32) × (Nat → UInt64) × UInt64 × UInt64 × Int32 × Int32 × UInt64 × UInt64 × UInt64 × UInt64 × Int32 × (Nat → Int32) × UInt64 × UInt64 × UInt64 × UInt64 × Int32 × UInt64 × Int32 × UInt64 × Int32 × Int32 × Int32 × Int32 × Int32 × Int32 × UInt64 × UInt64 × Int32 × Int64 × (Nat → Int32) × (Nat → Int32) × (Nat → Int32) × (Nat → Int32) × Int64 × UInt64
def Eqs (n : Nat) (pl hf pw gl : Nat → Int32) (th sc ta re : Int32) (i : Nat) (s : LawS) : Prop := s.1 = ii i ∧ s.2.1 = ii n ∧ s.2.2.1 = th ∧ s.2.2.2.1 = sc ∧ s.2.2.2.2.1 = ta ∧ s.2.2.2.2.2.1 = re ∧ s.2.2.2.2.2.2.1 = pl ∧ s.2.2.2.2.2.2.2.1 = hf ∧ s.2.2.2.2.2.2.2.2.1 = pw ∧ s.2.2.2.2.2.2.2.2.2.1 = gl ∧ s.2.2.2.2.2.2.2.2.2.2.2.2.2.2.2.2.2.2.2.2.2.2.2.2.2.2.2.2.2.2.2.2.2.2.2.2.1 = ii n ∧ s.2.2.2.2.2.2.2.2.2.2.2.2.2.2.2.2.2.2.2.2.2.2.2.2.2.2.2.2.2.2.2.2.2.2.2.2.2.1 = th ∧ s.2.2.2.2.2.2.2.2.2.2.2.2.2.2.2.2.2.2.2.2.2.2.2.2.2.2.2.2.2.2.2.2.2.2.2.2.2.2.1 = sc ∧ s.2.2.2.2.2.2.2.2.2.2.2.2.2.2.2.2.2.2.2.2.2.2.2.2.2.2.2.2.2.2.2.2.2.2.2.2.2.2.2.1 = ta ∧ s.2.2.2.2.2.2.2.2.2.2.2.2.2.2.2.2.2.2.2.2.2.2.2.2.2.2.2.2.2.2.2.2.2.2.2.2.2.2.2.2.1 = re ∧ s.2.2.2.2.2.2.2.2.2.2.2.2.2.2.2.2.2.2.2.2.2.2.2.2.2.2.2.2.2.2.2.2.2.2.2.2.2.2.2.2.2.2.2.2.2.1 = pl ∧ s.2.2.2.2.2.2.2.2.2.2.2.2.2.2.2.2.2.2.2.2.2.2.2.2.2.2.2.2.2.2.2.2.2.2.2.2.2.2.2.2.2.2.2.2.2.2.1 = hf ∧ s.2.2.2.2.2.2.2.2.2.2.2.2.2.2.2.2.2.2.2.2.2.2.2.2.2.2.2.2.2.2.2.2.2.2.2.2.2.2.2.2.2.2.2.2.2.2.2.1 = pw ∧ s.2.2.2.2.2.2.2.2.2.2.2.2.2.2.2.2.2.2.2.2.2.2.2.2.2.2.2.2.2.2.2.2.2.2.2.2.2.2.2.2.2.2.2.2.2.2.2.2.1 = gl
def Inv (i : Nat) (s : LawS) : Prop := ∃ (n : Nat) (pl hf pw gl : Nat → Int32) (th sc ta re : Int32), Gd n pl hf pw gl th sc ta ∧ Eqs n pl hf pw gl th sc ta re i s
theorem ii_a (i k : Nat) : ii i + ii k = ii (i + k) := (Int32.ofNat_add i k).symm
theorem lgc (x : Int64) : lg_cmp x x = 0 := by unfold lg_cmp; simp
theorem dcs {v : UInt64} {K : Nat} (h : mg v K) (hK : K ≤ 2047) (o : CmpOp) : Op.cmpValue (FP.dcmp v v) o = 0 := by rw [ky_cmp (mg_fin h hK) (mg_fin h hK)]; exact (cv_eq _ _ _).mpr rfl
set_option maxRecDepth 100000 in
set_option maxHeartbeats 4000000 in
theorem law_p0 {n : Nat} {pl hf pw gl : Nat → Int32} {th sc ta re : Int32} (hG : Gd n pl hf pw gl th sc ta) {xs : Nat → Int32} {L i : Nat} (hi : i + 5 ≤ L) (hL : L ≤ 2560) {s : LawS} (hs : Eqs n pl hf pw gl th sc ta re i s) {K : LawS → Option Int32} (hK : ∀ s2, Inv (i + 5) s2 → K s2 = some 1) : f_law_c0 xs L s K = some 1 := by
  obtain ⟨e0, e1, e2, e3, e4, e5, e6, e7, e8, e9, e36, e37, e38, e39, e40, e45, e46, e47, e48⟩ := hs
  have v1 : vin (ii (i + 1)) L = true := vin_ii (by omega) (by omega)
  have c1 : (ii (i + 1)).toNatClampNeg = i + 1 := ii_cl (by omega)
  have v2 : vin (ii (i + 2)) L = true := vin_ii (by omega) (by omega)
  have c2 : (ii (i + 2)).toNatClampNeg = i + 2 := ii_cl (by omega)
  have v3 : vin (ii (i + 3)) L = true := vin_ii (by omega) (by omega)
  have c3 : (ii (i + 3)).toNatClampNeg = i + 3 := ii_cl (by omega)
  have v4 : vin (ii (i + 4)) L = true := vin_ii (by omega) (by omega)
  have c4 : (ii (i + 4)).toNatClampNeg = i + 4 := ii_cl (by omega)
  unfold f_law_c0
  simp only [e0, e1, e2, e3, e4, e5, e6, e7, e8, e9, e36, e37, e38, e39, e40, e45, e46, e47, e48, show ii i + (1 : Int32) = ii (i + 1) from ii_a i 1, show ii i + (2 : Int32) = ii (i + 2) from ii_a i 2, show ii i + (3 : Int32) = ii (i + 3) from ii_a i 3, show ii i + (4 : Int32) = ii (i + 4) from ii_a i 4, show ii i + (5 : Int32) = ii (i + 5) from ii_a i 5, gd_t v1, gd_t v2, gd_t v3, gd_t v4, c1, c2, c3, c4]
  obtain ⟨k, n', pl', hf', pw', gl', o', v, q1, q2, hG', hk⟩ := LM_lens hG (xs (i + 1)) (xs (i + 2)) (xs (i + 3)) (xs (i + 4)) s.2.2.2.2.2.2.2.2.2.2.2.2.2.2.2.2.2.2.2.2.2.2.2.2.2.2.2.2.2.2.2.2.2.2.2.2.2.2.2.2.2.2.2.2.2.2.2.2.2.1
  rw [bd_s q1]
  try simp only []
  rw [bd_s q2]
  try simp only []
  rw [bd_s (show f_X8_thrown k = some k from rfl), if_pos rfl]
  by_cases h0 : k = 0
  · rw [if_pos h0, hk h0, lgc, if_pos rfl]
    exact hK _ ⟨n', pl', hf', pw', gl', th, sc, ta, re, hG', rfl, rfl, rfl, rfl, rfl, rfl, rfl, rfl, rfl, rfl, rfl, rfl, rfl, rfl, rfl, rfl, rfl, rfl, rfl⟩
  · rw [if_neg h0]
    exact hK _ ⟨n', pl', hf', pw', gl', th, sc, ta, re, hG', rfl, rfl, rfl, rfl, rfl, rfl, rfl, rfl, rfl, rfl, rfl, rfl, rfl, rfl, rfl, rfl, rfl, rfl, rfl⟩
set_option maxRecDepth 100000 in
set_option maxHeartbeats 4000000 in
theorem law_p1 {n : Nat} {pl hf pw gl : Nat → Int32} {th sc ta re : Int32} (hG : Gd n pl hf pw gl th sc ta) {xs : Nat → Int32} {L i : Nat} (hi : i + 5 ≤ L) (hL : L ≤ 2560) {s : LawS} (hs : Eqs n pl hf pw gl th sc ta re i s) {K : LawS → Option Int32} (hK : ∀ s2, Inv (i + 5) s2 → K s2 = some 1) : f_law_c1 xs L s K = some 1 := by
  obtain ⟨e0, e1, e2, e3, e4, e5, e6, e7, e8, e9, e36, e37, e38, e39, e40, e45, e46, e47, e48⟩ := hs
  have v1 : vin (ii (i + 1)) L = true := vin_ii (by omega) (by omega)
  have c1 : (ii (i + 1)).toNatClampNeg = i + 1 := ii_cl (by omega)
  have v2 : vin (ii (i + 2)) L = true := vin_ii (by omega) (by omega)
  have c2 : (ii (i + 2)).toNatClampNeg = i + 2 := ii_cl (by omega)
  unfold f_law_c1
  simp only [e0, e1, e2, e3, e4, e5, e6, e7, e8, e9, e36, e37, e38, e39, e40, e45, e46, e47, e48, show ii i + (1 : Int32) = ii (i + 1) from ii_a i 1, show ii i + (2 : Int32) = ii (i + 2) from ii_a i 2, show ii i + (5 : Int32) = ii (i + 5) from ii_a i 5, gd_t v1, gd_t v2, c1, c2]
  obtain ⟨k, n', pl', hf', pw', gl', o', v, q1, q2, hG', hk⟩ := LM_stop hG (xs (i + 1)) (xs (i + 2)) s.2.2.2.2.2.2.2.2.2.2.2.2.2.2.2.2.2.2.2.2.2.2.2.2.2.2.2.2.2.2.2.2.2.2.2.2.2.2.2.2.2.2.2.2.2.2.2.2.2.1
  rw [bd_s q1]
  try simp only []
  rw [bd_s q2]
  try simp only []
  rw [bd_s (show f_X8_thrown k = some k from rfl), if_pos rfl]
  by_cases h0 : k = 0
  · rw [if_pos h0, hk h0, lgc, if_pos rfl]
    exact hK _ ⟨n', pl', hf', pw', gl', th, sc, ta, re, hG', rfl, rfl, rfl, rfl, rfl, rfl, rfl, rfl, rfl, rfl, rfl, rfl, rfl, rfl, rfl, rfl, rfl, rfl, rfl⟩
  · rw [if_neg h0]
    exact hK _ ⟨n', pl', hf', pw', gl', th, sc, ta, re, hG', rfl, rfl, rfl, rfl, rfl, rfl, rfl, rfl, rfl, rfl, rfl, rfl, rfl, rfl, rfl, rfl, rfl, rfl, rfl⟩
set_option maxRecDepth 100000 in
set_option maxHeartbeats 4000000 in
theorem law_p2 {n : Nat} {pl hf pw gl : Nat → Int32} {th sc ta re : Int32} (hG : Gd n pl hf pw gl th sc ta) {xs : Nat → Int32} {L i : Nat} (hi : i + 5 ≤ L) (hL : L ≤ 2560) {s : LawS} (hs : Eqs n pl hf pw gl th sc ta re i s) {K : LawS → Option Int32} (hK : ∀ s2, Inv (i + 5) s2 → K s2 = some 1) : f_law_c2 xs L s K = some 1 := by
  obtain ⟨e0, e1, e2, e3, e4, e5, e6, e7, e8, e9, e36, e37, e38, e39, e40, e45, e46, e47, e48⟩ := hs
  have v1 : vin (ii (i + 1)) L = true := vin_ii (by omega) (by omega)
  have c1 : (ii (i + 1)).toNatClampNeg = i + 1 := ii_cl (by omega)
  unfold f_law_c2
  simp only [e0, e1, e2, e3, e4, e5, e6, e7, e8, e9, e36, e37, e38, e39, e40, e45, e46, e47, e48, show ii i + (1 : Int32) = ii (i + 1) from ii_a i 1, show ii i + (5 : Int32) = ii (i + 5) from ii_a i 5, gd_t v1, c1]
  obtain ⟨k, n', pl', hf', pw', gl', o', v, q1, q2, hG', hk⟩ := LM_take hG (xs (i + 1)) s.2.2.2.2.2.2.2.2.2.2.2.2.2.2.2.2.2.2.2.2.2.2.2.2.2.2.2.2.2.2.2.2.2.2.2.2.2.2.2.2.2.2.2.2.2.2.2.2.2.1
  rw [bd_s q1]
  try simp only []
  rw [bd_s q2]
  try simp only []
  rw [bd_s (show f_X8_thrown k = some k from rfl), if_pos rfl]
  by_cases h0 : k = 0
  · rw [if_pos h0, hk h0, lgc, if_pos rfl]
    exact hK _ ⟨n', pl', hf', pw', gl', th, sc, ta, re, hG', rfl, rfl, rfl, rfl, rfl, rfl, rfl, rfl, rfl, rfl, rfl, rfl, rfl, rfl, rfl, rfl, rfl, rfl, rfl⟩
  · rw [if_neg h0]
    exact hK _ ⟨n', pl', hf', pw', gl', th, sc, ta, re, hG', rfl, rfl, rfl, rfl, rfl, rfl, rfl, rfl, rfl, rfl, rfl, rfl, rfl, rfl, rfl, rfl, rfl, rfl, rfl⟩
set_option maxRecDepth 100000 in
set_option maxHeartbeats 4000000 in
theorem law_p3 {n : Nat} {pl hf pw gl : Nat → Int32} {th sc ta re : Int32} (hG : Gd n pl hf pw gl th sc ta) {xs : Nat → Int32} {L i : Nat} (hi : i + 5 ≤ L) (hL : L ≤ 2560) {s : LawS} (hs : Eqs n pl hf pw gl th sc ta re i s) {K : LawS → Option Int32} (hK : ∀ s2, Inv (i + 5) s2 → K s2 = some 1) : f_law_c3 xs L s K = some 1 := by
  obtain ⟨e0, e1, e2, e3, e4, e5, e6, e7, e8, e9, e36, e37, e38, e39, e40, e45, e46, e47, e48⟩ := hs
  have v1 : vin (ii (i + 1)) L = true := vin_ii (by omega) (by omega)
  have c1 : (ii (i + 1)).toNatClampNeg = i + 1 := ii_cl (by omega)
  have v2 : vin (ii (i + 2)) L = true := vin_ii (by omega) (by omega)
  have c2 : (ii (i + 2)).toNatClampNeg = i + 2 := ii_cl (by omega)
  unfold f_law_c3
  simp only [e0, e1, e2, e3, e4, e5, e6, e7, e8, e9, e36, e37, e38, e39, e40, e45, e46, e47, e48, show ii i + (1 : Int32) = ii (i + 1) from ii_a i 1, show ii i + (2 : Int32) = ii (i + 2) from ii_a i 2, show ii i + (5 : Int32) = ii (i + 5) from ii_a i 5, gd_t v1, gd_t v2, c1, c2]
  obtain ⟨k, pl', o', v, q1, q2, hG', hk⟩ := LM_move hG (xs (i + 1)) (xs (i + 2)) s.2.2.2.2.2.2.2.2.2.2.2.2.2.2.2.2.2.2.2.2.2.2.2.2.2.2.2.2.2.2.2.2.2.2.2.2.2.2.2.2.2.2.2.2.2.2.2.2.2.1
  rw [bd_s q1]
  try simp only []
  rw [bd_s q2]
  try simp only []
  rw [bd_s (show f_X8_thrown k = some k from rfl), if_pos rfl]
  by_cases h0 : k = 0
  · rw [if_pos h0, hk h0, lgc, if_pos rfl]
    exact hK _ ⟨n, pl', hf, pw, gl, th, sc, ta, re, hG', rfl, rfl, rfl, rfl, rfl, rfl, rfl, rfl, rfl, rfl, rfl, rfl, rfl, rfl, rfl, rfl, rfl, rfl, rfl⟩
  · rw [if_neg h0]
    exact hK _ ⟨n, pl', hf, pw, gl, th, sc, ta, re, hG', rfl, rfl, rfl, rfl, rfl, rfl, rfl, rfl, rfl, rfl, rfl, rfl, rfl, rfl, rfl, rfl, rfl, rfl, rfl⟩
set_option maxRecDepth 100000 in
set_option maxHeartbeats 4000000 in
theorem law_p4 {n : Nat} {pl hf pw gl : Nat → Int32} {th sc ta re : Int32} (hG : Gd n pl hf pw gl th sc ta) {xs : Nat → Int32} {L i : Nat} (hi : i + 5 ≤ L) (hL : L ≤ 2560) {s : LawS} (hs : Eqs n pl hf pw gl th sc ta re i s) {K : LawS → Option Int32} (hK : ∀ s2, Inv (i + 5) s2 → K s2 = some 1) : f_law_c4 xs L s K = some 1 := by
  obtain ⟨e0, e1, e2, e3, e4, e5, e6, e7, e8, e9, e36, e37, e38, e39, e40, e45, e46, e47, e48⟩ := hs
  have v1 : vin (ii (i + 1)) L = true := vin_ii (by omega) (by omega)
  have c1 : (ii (i + 1)).toNatClampNeg = i + 1 := ii_cl (by omega)
  have v2 : vin (ii (i + 2)) L = true := vin_ii (by omega) (by omega)
  have c2 : (ii (i + 2)).toNatClampNeg = i + 2 := ii_cl (by omega)
  unfold f_law_c4
  simp only [e0, e1, e2, e3, e4, e5, e6, e7, e8, e9, e36, e37, e38, e39, e40, e45, e46, e47, e48, show ii i + (1 : Int32) = ii (i + 1) from ii_a i 1, show ii i + (2 : Int32) = ii (i + 2) from ii_a i 2, show ii i + (5 : Int32) = ii (i + 5) from ii_a i 5, gd_t v1, gd_t v2, c1, c2]
  obtain ⟨k, hf', o', v, q1, q2, hG', hk⟩ := LM_half hG (xs (i + 1)) (xs (i + 2)) s.2.2.2.2.2.2.2.2.2.2.2.2.2.2.2.2.2.2.2.2.2.2.2.2.2.2.2.2.2.2.2.2.2.2.2.2.2.2.2.2.2.2.2.2.2.2.2.2.2.1
  rw [bd_s q1]
  try simp only []
  rw [bd_s q2]
  try simp only []
  rw [bd_s (show f_X8_thrown k = some k from rfl), if_pos rfl]
  by_cases h0 : k = 0
  · rw [if_pos h0, hk h0, lgc, if_pos rfl]
    exact hK _ ⟨n, pl, hf', pw, gl, th, sc, ta, re, hG', rfl, rfl, rfl, rfl, rfl, rfl, rfl, rfl, rfl, rfl, rfl, rfl, rfl, rfl, rfl, rfl, rfl, rfl, rfl⟩
  · rw [if_neg h0]
    exact hK _ ⟨n, pl, hf', pw, gl, th, sc, ta, re, hG', rfl, rfl, rfl, rfl, rfl, rfl, rfl, rfl, rfl, rfl, rfl, rfl, rfl, rfl, rfl, rfl, rfl, rfl, rfl⟩
set_option maxRecDepth 100000 in
set_option maxHeartbeats 4000000 in
theorem law_p5 {n : Nat} {pl hf pw gl : Nat → Int32} {th sc ta re : Int32} (hG : Gd n pl hf pw gl th sc ta) {xs : Nat → Int32} {L i : Nat} (hi : i + 5 ≤ L) (hL : L ≤ 2560) {s : LawS} (hs : Eqs n pl hf pw gl th sc ta re i s) {K : LawS → Option Int32} (hK : ∀ s2, Inv (i + 5) s2 → K s2 = some 1) : f_law_c5 xs L s K = some 1 := by
  obtain ⟨e0, e1, e2, e3, e4, e5, e6, e7, e8, e9, e36, e37, e38, e39, e40, e45, e46, e47, e48⟩ := hs
  have v1 : vin (ii (i + 1)) L = true := vin_ii (by omega) (by omega)
  have c1 : (ii (i + 1)).toNatClampNeg = i + 1 := ii_cl (by omega)
  have v2 : vin (ii (i + 2)) L = true := vin_ii (by omega) (by omega)
  have c2 : (ii (i + 2)).toNatClampNeg = i + 2 := ii_cl (by omega)
  unfold f_law_c5
  simp only [e0, e1, e2, e3, e4, e5, e6, e7, e8, e9, e36, e37, e38, e39, e40, e45, e46, e47, e48, show ii i + (1 : Int32) = ii (i + 1) from ii_a i 1, show ii i + (2 : Int32) = ii (i + 2) from ii_a i 2, show ii i + (5 : Int32) = ii (i + 5) from ii_a i 5, gd_t v1, gd_t v2, c1, c2]
  obtain ⟨k, pl', o', v, q1, q2, hG', hk⟩ := LM_swap hG (xs (i + 1)) (xs (i + 2)) s.2.2.2.2.2.2.2.2.2.2.2.2.2.2.2.2.2.2.2.2.2.2.2.2.2.2.2.2.2.2.2.2.2.2.2.2.2.2.2.2.2.2.2.2.2.2.2.2.2.1
  rw [bd_s q1]
  try simp only []
  rw [bd_s q2]
  try simp only []
  rw [bd_s (show f_X8_thrown k = some k from rfl), if_pos rfl]
  by_cases h0 : k = 0
  · rw [if_pos h0, hk h0, lgc, if_pos rfl]
    exact hK _ ⟨n, pl', hf, pw, gl, th, sc, ta, re, hG', rfl, rfl, rfl, rfl, rfl, rfl, rfl, rfl, rfl, rfl, rfl, rfl, rfl, rfl, rfl, rfl, rfl, rfl, rfl⟩
  · rw [if_neg h0]
    exact hK _ ⟨n, pl', hf, pw, gl, th, sc, ta, re, hG', rfl, rfl, rfl, rfl, rfl, rfl, rfl, rfl, rfl, rfl, rfl, rfl, rfl, rfl, rfl, rfl, rfl, rfl, rfl⟩
set_option maxRecDepth 100000 in
set_option maxHeartbeats 4000000 in
theorem law_p6 {n : Nat} {pl hf pw gl : Nat → Int32} {th sc ta re : Int32} (hG : Gd n pl hf pw gl th sc ta) {xs : Nat → Int32} {L i : Nat} (hi : i + 5 ≤ L) (hL : L ≤ 2560) {s : LawS} (hs : Eqs n pl hf pw gl th sc ta re i s) {K : LawS → Option Int32} (hK : ∀ s2, Inv (i + 5) s2 → K s2 = some 1) : f_law_c6 xs L s K = some 1 := by
  obtain ⟨e0, e1, e2, e3, e4, e5, e6, e7, e8, e9, e36, e37, e38, e39, e40, e45, e46, e47, e48⟩ := hs
  have v1 : vin (ii (i + 1)) L = true := vin_ii (by omega) (by omega)
  have c1 : (ii (i + 1)).toNatClampNeg = i + 1 := ii_cl (by omega)
  unfold f_law_c6
  simp only [e0, e1, e2, e3, e4, e5, e6, e7, e8, e9, e36, e37, e38, e39, e40, e45, e46, e47, e48, show ii i + (1 : Int32) = ii (i + 1) from ii_a i 1, show ii i + (5 : Int32) = ii (i + 5) from ii_a i 5, gd_t v1, c1]
  obtain ⟨k, th', o', v, q1, q2, hG', hk⟩ := LM_thing hG (xs (i + 1)) s.2.2.2.2.2.2.2.2.2.2.2.2.2.2.2.2.2.2.2.2.2.2.2.2.2.2.2.2.2.2.2.2.2.2.2.2.2.2.2.2.2.2.2.2.2.2.2.2.2.1
  rw [bd_s q1]
  try simp only []
  rw [bd_s q2]
  try simp only []
  rw [bd_s (show f_X8_thrown k = some k from rfl), if_pos rfl]
  by_cases h0 : k = 0
  · rw [if_pos h0, hk h0, lgc, if_pos rfl]
    exact hK _ ⟨n, pl, hf, pw, gl, th', sc, ta, re, hG', rfl, rfl, rfl, rfl, rfl, rfl, rfl, rfl, rfl, rfl, rfl, rfl, rfl, rfl, rfl, rfl, rfl, rfl, rfl⟩
  · rw [if_neg h0]
    exact hK _ ⟨n, pl, hf, pw, gl, th', sc, ta, re, hG', rfl, rfl, rfl, rfl, rfl, rfl, rfl, rfl, rfl, rfl, rfl, rfl, rfl, rfl, rfl, rfl, rfl, rfl, rfl⟩
set_option maxRecDepth 100000 in
set_option maxHeartbeats 4000000 in
theorem law_p7 {n : Nat} {pl hf pw gl : Nat → Int32} {th sc ta re : Int32} (hG : Gd n pl hf pw gl th sc ta) {xs : Nat → Int32} {L i : Nat} (hi : i + 5 ≤ L) (hL : L ≤ 2560) {s : LawS} (hs : Eqs n pl hf pw gl th sc ta re i s) {K : LawS → Option Int32} (hK : ∀ s2, Inv (i + 5) s2 → K s2 = some 1) : f_law_c7 xs L s K = some 1 := by
  obtain ⟨e0, e1, e2, e3, e4, e5, e6, e7, e8, e9, e36, e37, e38, e39, e40, e45, e46, e47, e48⟩ := hs
  have v1 : vin (ii (i + 1)) L = true := vin_ii (by omega) (by omega)
  have c1 : (ii (i + 1)).toNatClampNeg = i + 1 := ii_cl (by omega)
  unfold f_law_c7
  simp only [e0, e1, e2, e3, e4, e5, e6, e7, e8, e9, e36, e37, e38, e39, e40, e45, e46, e47, e48, show ii i + (1 : Int32) = ii (i + 1) from ii_a i 1, show ii i + (5 : Int32) = ii (i + 5) from ii_a i 5, gd_t v1, c1]
  obtain ⟨k, sc', o', v, q1, q2, hG', hk⟩ := LM_screen hG (xs (i + 1)) s.2.2.2.2.2.2.2.2.2.2.2.2.2.2.2.2.2.2.2.2.2.2.2.2.2.2.2.2.2.2.2.2.2.2.2.2.2.2.2.2.2.2.2.2.2.2.2.2.2.1
  rw [bd_s q1]
  try simp only []
  rw [bd_s q2]
  try simp only []
  rw [bd_s (show f_X8_thrown k = some k from rfl), if_pos rfl]
  by_cases h0 : k = 0
  · rw [if_pos h0, hk h0, lgc, if_pos rfl]
    exact hK _ ⟨n, pl, hf, pw, gl, th, sc', ta, re, hG', rfl, rfl, rfl, rfl, rfl, rfl, rfl, rfl, rfl, rfl, rfl, rfl, rfl, rfl, rfl, rfl, rfl, rfl, rfl⟩
  · rw [if_neg h0]
    exact hK _ ⟨n, pl, hf, pw, gl, th, sc', ta, re, hG', rfl, rfl, rfl, rfl, rfl, rfl, rfl, rfl, rfl, rfl, rfl, rfl, rfl, rfl, rfl, rfl, rfl, rfl, rfl⟩
set_option maxRecDepth 100000 in
set_option maxHeartbeats 4000000 in
theorem law_p8 {n : Nat} {pl hf pw gl : Nat → Int32} {th sc ta re : Int32} (hG : Gd n pl hf pw gl th sc ta) {xs : Nat → Int32} {L i : Nat} (hi : i + 5 ≤ L) (hL : L ≤ 2560) {s : LawS} (hs : Eqs n pl hf pw gl th sc ta re i s) {K : LawS → Option Int32} (hK : ∀ s2, Inv (i + 5) s2 → K s2 = some 1) : f_law_c8 xs L s K = some 1 := by
  obtain ⟨e0, e1, e2, e3, e4, e5, e6, e7, e8, e9, e36, e37, e38, e39, e40, e45, e46, e47, e48⟩ := hs
  have v1 : vin (ii (i + 1)) L = true := vin_ii (by omega) (by omega)
  have c1 : (ii (i + 1)).toNatClampNeg = i + 1 := ii_cl (by omega)
  unfold f_law_c8
  simp only [e0, e1, e2, e3, e4, e5, e6, e7, e8, e9, e36, e37, e38, e39, e40, e45, e46, e47, e48, show ii i + (1 : Int32) = ii (i + 1) from ii_a i 1, show ii i + (5 : Int32) = ii (i + 5) from ii_a i 5, gd_t v1, c1]
  obtain ⟨k, ta', o', v, q1, q2, hG', hk⟩ := LM_tall hG (xs (i + 1)) s.2.2.2.2.2.2.2.2.2.2.2.2.2.2.2.2.2.2.2.2.2.2.2.2.2.2.2.2.2.2.2.2.2.2.2.2.2.2.2.2.2.2.2.2.2.2.2.2.2.1
  rw [bd_s q1]
  try simp only []
  rw [bd_s q2]
  try simp only []
  rw [bd_s (show f_X8_thrown k = some k from rfl), if_pos rfl]
  by_cases h0 : k = 0
  · rw [if_pos h0, hk h0, lgc, if_pos rfl]
    exact hK _ ⟨n, pl, hf, pw, gl, th, sc, ta', re, hG', rfl, rfl, rfl, rfl, rfl, rfl, rfl, rfl, rfl, rfl, rfl, rfl, rfl, rfl, rfl, rfl, rfl, rfl, rfl⟩
  · rw [if_neg h0]
    exact hK _ ⟨n, pl, hf, pw, gl, th, sc, ta', re, hG', rfl, rfl, rfl, rfl, rfl, rfl, rfl, rfl, rfl, rfl, rfl, rfl, rfl, rfl, rfl, rfl, rfl, rfl, rfl⟩
set_option maxRecDepth 100000 in
set_option maxHeartbeats 4000000 in
theorem law_p9 {n : Nat} {pl hf pw gl : Nat → Int32} {th sc ta re : Int32} (hG : Gd n pl hf pw gl th sc ta) {xs : Nat → Int32} {L i : Nat} (hi : i + 5 ≤ L) (hL : L ≤ 2560) {s : LawS} (hs : Eqs n pl hf pw gl th sc ta re i s) {K : LawS → Option Int32} (hK : ∀ s2, Inv (i + 5) s2 → K s2 = some 1) : f_law_c9 xs L s K = some 1 := by
  obtain ⟨e0, e1, e2, e3, e4, e5, e6, e7, e8, e9, e36, e37, e38, e39, e40, e45, e46, e47, e48⟩ := hs
  unfold f_law_c9
  simp only [e0, e1, e2, e3, e4, e5, e6, e7, e8, e9, e36, e37, e38, e39, e40, e45, e46, e47, e48, show ii i + (5 : Int32) = ii (i + 5) from ii_a i 5]
  rw [bd_s (show f_X6_rattle re = some (re + 1, re + 1) from rfl), bd_s (show f_X8_rattle re = some (re + 1, 0, re + 1) from rfl)]
  try simp only []
  first
  | rw [if_pos rfl]
  | rw [if_pos True.intro]
  exact hK _ ⟨n, pl, hf, pw, gl, th, sc, ta, (re + 1), hG, rfl, rfl, rfl, rfl, rfl, rfl, rfl, rfl, rfl, rfl, rfl, rfl, rfl, rfl, rfl, rfl, rfl, rfl, rfl⟩
set_option maxRecDepth 100000 in
set_option maxHeartbeats 4000000 in
theorem law_p10 {n : Nat} {pl hf pw gl : Nat → Int32} {th sc ta re : Int32} (hG : Gd n pl hf pw gl th sc ta) {xs : Nat → Int32} {L i : Nat} (hi : i + 5 ≤ L) (hL : L ≤ 2560) {s : LawS} (hs : Eqs n pl hf pw gl th sc ta re i s) {K : LawS → Option Int32} (hK : ∀ s2, Inv (i + 5) s2 → K s2 = some 1) : f_law_c10 xs L s K = some 1 := by
  obtain ⟨e0, e1, e2, e3, e4, e5, e6, e7, e8, e9, e36, e37, e38, e39, e40, e45, e46, e47, e48⟩ := hs
  have v1 : vin (ii (i + 1)) L = true := vin_ii (by omega) (by omega)
  have c1 : (ii (i + 1)).toNatClampNeg = i + 1 := ii_cl (by omega)
  have v2 : vin (ii (i + 2)) L = true := vin_ii (by omega) (by omega)
  have c2 : (ii (i + 2)).toNatClampNeg = i + 2 := ii_cl (by omega)
  unfold f_law_c10
  simp only [e0, e1, e2, e3, e4, e5, e6, e7, e8, e9, e36, e37, e38, e39, e40, e45, e46, e47, e48, show ii i + (1 : Int32) = ii (i + 1) from ii_a i 1, show ii i + (2 : Int32) = ii (i + 2) from ii_a i 2, show ii i + (5 : Int32) = ii (i + 5) from ii_a i 5, gd_t v1, gd_t v2, c1, c2]
  obtain ⟨k, a1, a2, a3, a4, a5, a6, a7, o, v, q1, q2, hk⟩ := LM_ofPiece hG (xs (i + 1)) (xs (i + 2)) s.2.2.2.2.2.2.2.2.2.2.1 s.2.2.2.2.2.2.2.2.2.2.2.1 s.2.2.2.2.2.2.2.2.2.2.2.2.1 s.2.2.2.2.2.2.2.2.2.2.2.2.2.1 s.2.2.2.2.2.2.2.2.2.2.2.2.2.2.1 s.2.2.2.2.2.2.2.2.2.2.2.2.2.2.2.1 s.2.2.2.2.2.2.2.2.2.2.2.2.2.2.2.2.1 s.2.2.2.2.2.2.2.2.2.2.2.2.2.2.2.2.2.2.2.2.2.2.2.2.2.2.2.2.2.2.2.2.2.2.2.2.2.2.2.2.2.2.2.2.2.2.2.2.2.1
  rw [bd_s q1]
  try simp only []
  rw [bd_s q2]
  try simp only []
  rw [bd_s (show f_X8_thrown k = some k from rfl), if_pos rfl]
  by_cases h0 : k = 0
  · rw [if_pos h0, hk h0, lgc, if_pos rfl]
    exact hK _ ⟨n, pl, hf, pw, gl, th, sc, ta, re, hG, rfl, rfl, rfl, rfl, rfl, rfl, rfl, rfl, rfl, rfl, rfl, rfl, rfl, rfl, rfl, rfl, rfl, rfl, rfl⟩
  · rw [if_neg h0]
    exact hK _ ⟨n, pl, hf, pw, gl, th, sc, ta, re, hG, rfl, rfl, rfl, rfl, rfl, rfl, rfl, rfl, rfl, rfl, rfl, rfl, rfl, rfl, rfl, rfl, rfl, rfl, rfl⟩
set_option maxRecDepth 100000 in
set_option maxHeartbeats 4000000 in
theorem law_p11 {n : Nat} {pl hf pw gl : Nat → Int32} {th sc ta re : Int32} (hG : Gd n pl hf pw gl th sc ta) {xs : Nat → Int32} {L i : Nat} (hi : i + 5 ≤ L) (hL : L ≤ 2560) {s : LawS} (hs : Eqs n pl hf pw gl th sc ta re i s) {K : LawS → Option Int32} (hK : ∀ s2, Inv (i + 5) s2 → K s2 = some 1) : f_law_c11 xs L s K = some 1 := by
  obtain ⟨e0, e1, e2, e3, e4, e5, e6, e7, e8, e9, e36, e37, e38, e39, e40, e45, e46, e47, e48⟩ := hs
  have v1 : vin (ii (i + 1)) L = true := vin_ii (by omega) (by omega)
  have c1 : (ii (i + 1)).toNatClampNeg = i + 1 := ii_cl (by omega)
  have v2 : vin (ii (i + 2)) L = true := vin_ii (by omega) (by omega)
  have c2 : (ii (i + 2)).toNatClampNeg = i + 2 := ii_cl (by omega)
  unfold f_law_c11
  simp only [e0, e1, e2, e3, e4, e5, e6, e7, e8, e9, e36, e37, e38, e39, e40, e45, e46, e47, e48, show ii i + (1 : Int32) = ii (i + 1) from ii_a i 1, show ii i + (2 : Int32) = ii (i + 2) from ii_a i 2, show ii i + (5 : Int32) = ii (i + 5) from ii_a i 5, gd_t v1, gd_t v2, c1, c2]
  obtain ⟨k, o, v, q1, q2, hk⟩ := LM_strength hG (xs (i + 1)) (xs (i + 2)) s.2.2.2.2.2.2.2.2.2.2.2.2.2.2.2.2.2.2.2.2.2.2.2.2.2.2.2.2.2.2.2.2.2.2.2.2.2.2.2.2.2.2.2.2.2.2.2.2.2.2
  rw [bd_s q1]
  try simp only []
  rw [bd_s q2]
  try simp only []
  rw [bd_s (show f_X8_thrown k = some k from rfl), if_pos rfl]
  by_cases h0 : k = 0
  · obtain ⟨rfl, hm⟩ := hk h0
    rw [if_pos h0]
    simp only [dcs hm (by decide)]
    first
    | exact hK _ ⟨n, pl, hf, pw, gl, th, sc, ta, re, hG, rfl, rfl, rfl, rfl, rfl, rfl, rfl, rfl, rfl, rfl, rfl, rfl, rfl, rfl, rfl, rfl, rfl, rfl, rfl⟩
    | (rw [if_pos rfl]; exact hK _ ⟨n, pl, hf, pw, gl, th, sc, ta, re, hG, rfl, rfl, rfl, rfl, rfl, rfl, rfl, rfl, rfl, rfl, rfl, rfl, rfl, rfl, rfl, rfl, rfl, rfl, rfl⟩)
    | (rw [if_pos True.intro]; exact hK _ ⟨n, pl, hf, pw, gl, th, sc, ta, re, hG, rfl, rfl, rfl, rfl, rfl, rfl, rfl, rfl, rfl, rfl, rfl, rfl, rfl, rfl, rfl, rfl, rfl, rfl, rfl⟩)
    | (simp only [if_true, if_false, ite_true, ite_false, not_true_eq_false, not_false_eq_true, ne_eq]; exact hK _ ⟨n, pl, hf, pw, gl, th, sc, ta, re, hG, rfl, rfl, rfl, rfl, rfl, rfl, rfl, rfl, rfl, rfl, rfl, rfl, rfl, rfl, rfl, rfl, rfl, rfl, rfl⟩)
  · rw [if_neg h0]
    exact hK _ ⟨n, pl, hf, pw, gl, th, sc, ta, re, hG, rfl, rfl, rfl, rfl, rfl, rfl, rfl, rfl, rfl, rfl, rfl, rfl, rfl, rfl, rfl, rfl, rfl, rfl, rfl⟩
set_option maxRecDepth 100000 in
set_option maxHeartbeats 4000000 in
theorem law_p12 {n : Nat} {pl hf pw gl : Nat → Int32} {th sc ta re : Int32} (hG : Gd n pl hf pw gl th sc ta) {xs : Nat → Int32} {L i : Nat} (hi : i + 5 ≤ L) (hL : L ≤ 2560) {s : LawS} (hs : Eqs n pl hf pw gl th sc ta re i s) {K : LawS → Option Int32} (hK : ∀ s2, Inv (i + 5) s2 → K s2 = some 1) : f_law_c12 xs L s K = some 1 := by
  obtain ⟨e0, e1, e2, e3, e4, e5, e6, e7, e8, e9, e36, e37, e38, e39, e40, e45, e46, e47, e48⟩ := hs
  have v1 : vin (ii (i + 1)) L = true := vin_ii (by omega) (by omega)
  have c1 : (ii (i + 1)).toNatClampNeg = i + 1 := ii_cl (by omega)
  have v2 : vin (ii (i + 2)) L = true := vin_ii (by omega) (by omega)
  have c2 : (ii (i + 2)).toNatClampNeg = i + 2 := ii_cl (by omega)
  have v3 : vin (ii (i + 3)) L = true := vin_ii (by omega) (by omega)
  have c3 : (ii (i + 3)).toNatClampNeg = i + 3 := ii_cl (by omega)
  have v4 : vin (ii (i + 4)) L = true := vin_ii (by omega) (by omega)
  have c4 : (ii (i + 4)).toNatClampNeg = i + 4 := ii_cl (by omega)
  unfold f_law_c12
  simp only [e0, e1, e2, e3, e4, e5, e6, e7, e8, e9, e36, e37, e38, e39, e40, e45, e46, e47, e48, show ii i + (1 : Int32) = ii (i + 1) from ii_a i 1, show ii i + (2 : Int32) = ii (i + 2) from ii_a i 2, show ii i + (3 : Int32) = ii (i + 3) from ii_a i 3, show ii i + (4 : Int32) = ii (i + 4) from ii_a i 4, show ii i + (5 : Int32) = ii (i + 5) from ii_a i 5, gd_t v1, gd_t v2, gd_t v3, gd_t v4, c1, c2, c3, c4]
  obtain ⟨k, a0, a1, a2, a3, a4, a5, a6, a7, a8, a9, o, v, h', u', c', q1, q2, hk⟩ := LM_ray hG (xs (i + 1)) (xs (i + 2)) (xs (i + 3)) (xs (i + 4)) s.2.2.2.2.2.2.2.2.2.2.1 s.2.2.2.2.2.2.2.2.2.2.2.1 s.2.2.2.2.2.2.2.2.2.2.2.2.1 s.2.2.2.2.2.2.2.2.2.2.2.2.2.1 s.2.2.2.2.2.2.2.2.2.2.2.2.2.2.1 s.2.2.2.2.2.2.2.2.2.2.2.2.2.2.2.1 s.2.2.2.2.2.2.2.2.2.2.2.2.2.2.2.2.1 s.2.2.2.2.2.2.2.2.2.2.2.2.2.2.2.2.2.1 s.2.2.2.2.2.2.2.2.2.2.2.2.2.2.2.2.2.2.1 s.2.2.2.2.2.2.2.2.2.2.2.2.2.2.2.2.2.2.2.1 s.2.2.2.2.2.2.2.2.2.2.2.2.2.2.2.2.2.2.2.2.2.2.2.2.2.2.2.2.2.2.2.2.2.2.2.2.2.2.2.2.2.2.2.2.2.2.2.2.2.2 s.2.2.2.2.2.2.2.2.2.2.2.2.2.2.2.2.2.2.2.2.2.2.2.2.2.2.2.2.2.2.2.2.2.2.2.2.2.2.2.2.2.1 s.2.2.2.2.2.2.2.2.2.2.2.2.2.2.2.2.2.2.2.2.2.2.2.2.2.2.2.2.2.2.2.2.2.2.2.2.2.2.2.2.2.2.1 s.2.2.2.2.2.2.2.2.2.2.2.2.2.2.2.2.2.2.2.2.2.2.2.2.2.2.2.2.2.2.2.2.2.2.2.2.2.2.2.2.2.2.2.1
  rw [bd_s q1]
  try simp only []
  rw [bd_s q2]
  try simp only []
  rw [bd_s (show f_X8_thrown k = some k from rfl), if_pos rfl]
  by_cases h0 : k = 0
  · obtain ⟨rfl, hm⟩ := hk h0
    rw [if_pos h0]
    simp only [dcs hm (by decide)]
    first
    | exact hK _ ⟨n, pl, hf, pw, gl, th, sc, ta, re, hG, rfl, rfl, rfl, rfl, rfl, rfl, rfl, rfl, rfl, rfl, rfl, rfl, rfl, rfl, rfl, rfl, rfl, rfl, rfl⟩
    | (rw [if_pos rfl]; exact hK _ ⟨n, pl, hf, pw, gl, th, sc, ta, re, hG, rfl, rfl, rfl, rfl, rfl, rfl, rfl, rfl, rfl, rfl, rfl, rfl, rfl, rfl, rfl, rfl, rfl, rfl, rfl⟩)
    | (rw [if_pos True.intro]; exact hK _ ⟨n, pl, hf, pw, gl, th, sc, ta, re, hG, rfl, rfl, rfl, rfl, rfl, rfl, rfl, rfl, rfl, rfl, rfl, rfl, rfl, rfl, rfl, rfl, rfl, rfl, rfl⟩)
    | (simp only [if_true, if_false, ite_true, ite_false, not_true_eq_false, not_false_eq_true, ne_eq]; exact hK _ ⟨n, pl, hf, pw, gl, th, sc, ta, re, hG, rfl, rfl, rfl, rfl, rfl, rfl, rfl, rfl, rfl, rfl, rfl, rfl, rfl, rfl, rfl, rfl, rfl, rfl, rfl⟩)
  · rw [if_neg h0]
    exact hK _ ⟨n, pl, hf, pw, gl, th, sc, ta, re, hG, rfl, rfl, rfl, rfl, rfl, rfl, rfl, rfl, rfl, rfl, rfl, rfl, rfl, rfl, rfl, rfl, rfl, rfl, rfl⟩
set_option maxRecDepth 100000 in
set_option maxHeartbeats 4000000 in
theorem law_p13 {n : Nat} {pl hf pw gl : Nat → Int32} {th sc ta re : Int32} (hG : Gd n pl hf pw gl th sc ta) {xs : Nat → Int32} {L i : Nat} (hi : i + 5 ≤ L) (hL : L ≤ 2560) {s : LawS} (hs : Eqs n pl hf pw gl th sc ta re i s) {K : LawS → Option Int32} (hK : ∀ s2, Inv (i + 5) s2 → K s2 = some 1) : f_law_c13 xs L s K = some 1 := by
  obtain ⟨e0, e1, e2, e3, e4, e5, e6, e7, e8, e9, e36, e37, e38, e39, e40, e45, e46, e47, e48⟩ := hs
  have v1 : vin (ii (i + 1)) L = true := vin_ii (by omega) (by omega)
  have c1 : (ii (i + 1)).toNatClampNeg = i + 1 := ii_cl (by omega)
  have v2 : vin (ii (i + 2)) L = true := vin_ii (by omega) (by omega)
  have c2 : (ii (i + 2)).toNatClampNeg = i + 2 := ii_cl (by omega)
  unfold f_law_c13
  simp only [e0, e1, e2, e3, e4, e5, e6, e7, e8, e9, e36, e37, e38, e39, e40, e45, e46, e47, e48, show ii i + (1 : Int32) = ii (i + 1) from ii_a i 1, show ii i + (2 : Int32) = ii (i + 2) from ii_a i 2, show ii i + (5 : Int32) = ii (i + 5) from ii_a i 5, gd_t v1, gd_t v2, c1, c2]
  obtain ⟨k, a0, a1, a2, a3, a4, a5, a6, a7, a8, a9, a10, o, v, q1, q2, hk⟩ := LM_table hG (xs (i + 1)) (xs (i + 2)) s.2.2.2.2.2.2.2.2.2.2.1 s.2.2.2.2.2.2.2.2.2.2.2.1 s.2.2.2.2.2.2.2.2.2.2.2.2.1 s.2.2.2.2.2.2.2.2.2.2.2.2.2.1 s.2.2.2.2.2.2.2.2.2.2.2.2.2.2.1 s.2.2.2.2.2.2.2.2.2.2.2.2.2.2.2.1 s.2.2.2.2.2.2.2.2.2.2.2.2.2.2.2.2.1 s.2.2.2.2.2.2.2.2.2.2.2.2.2.2.2.2.2.2.2.2.2.2.2.2.2.2.2.1 s.2.2.2.2.2.2.2.2.2.2.2.2.2.2.2.2.2.2.2.2.2.2.2.2.2.2.2.2.1 s.2.2.2.2.2.2.2.2.2.2.2.2.2.2.2.2.2.2.2.2.2.2.2.2.2.2.2.2.2.1 s.2.2.2.2.2.2.2.2.2.2.2.2.2.2.2.2.2.2.2.2.2.2.2.2.2.2.2.2.2.2.1 s.2.2.2.2.2.2.2.2.2.2.2.2.2.2.2.2.2.2.2.2.2.2.2.2.2.2.2.2.2.2.2.2.2.2.2.2.2.2.2.2.2.2.2.2.2.2.2.2.2.2
  rw [bd_s q1]
  try simp only []
  rw [bd_s q2]
  try simp only []
  rw [bd_s (show f_X8_thrown k = some k from rfl), if_pos rfl]
  by_cases h0 : k = 0
  · obtain ⟨rfl, hm⟩ := hk h0
    rw [if_pos h0]
    simp only [dcs hm (by decide)]
    first
    | exact hK _ ⟨n, pl, hf, pw, gl, th, sc, ta, re, hG, rfl, rfl, rfl, rfl, rfl, rfl, rfl, rfl, rfl, rfl, rfl, rfl, rfl, rfl, rfl, rfl, rfl, rfl, rfl⟩
    | (rw [if_pos rfl]; exact hK _ ⟨n, pl, hf, pw, gl, th, sc, ta, re, hG, rfl, rfl, rfl, rfl, rfl, rfl, rfl, rfl, rfl, rfl, rfl, rfl, rfl, rfl, rfl, rfl, rfl, rfl, rfl⟩)
    | (rw [if_pos True.intro]; exact hK _ ⟨n, pl, hf, pw, gl, th, sc, ta, re, hG, rfl, rfl, rfl, rfl, rfl, rfl, rfl, rfl, rfl, rfl, rfl, rfl, rfl, rfl, rfl, rfl, rfl, rfl, rfl⟩)
    | (simp only [if_true, if_false, ite_true, ite_false, not_true_eq_false, not_false_eq_true, ne_eq]; exact hK _ ⟨n, pl, hf, pw, gl, th, sc, ta, re, hG, rfl, rfl, rfl, rfl, rfl, rfl, rfl, rfl, rfl, rfl, rfl, rfl, rfl, rfl, rfl, rfl, rfl, rfl, rfl⟩)
  · rw [if_neg h0]
    exact hK _ ⟨n, pl, hf, pw, gl, th, sc, ta, re, hG, rfl, rfl, rfl, rfl, rfl, rfl, rfl, rfl, rfl, rfl, rfl, rfl, rfl, rfl, rfl, rfl, rfl, rfl, rfl⟩
set_option maxRecDepth 100000 in
set_option maxHeartbeats 4000000 in
theorem law_p14 {n : Nat} {pl hf pw gl : Nat → Int32} {th sc ta re : Int32} (hG : Gd n pl hf pw gl th sc ta) {xs : Nat → Int32} {L i : Nat} (hi : i + 5 ≤ L) (hL : L ≤ 2560) {s : LawS} (hs : Eqs n pl hf pw gl th sc ta re i s) {K : LawS → Option Int32} (hK : ∀ s2, Inv (i + 5) s2 → K s2 = some 1) : f_law_c14 xs L s K = some 1 := by
  obtain ⟨e0, e1, e2, e3, e4, e5, e6, e7, e8, e9, e36, e37, e38, e39, e40, e45, e46, e47, e48⟩ := hs
  have v1 : vin (ii (i + 1)) L = true := vin_ii (by omega) (by omega)
  have c1 : (ii (i + 1)).toNatClampNeg = i + 1 := ii_cl (by omega)
  have v2 : vin (ii (i + 2)) L = true := vin_ii (by omega) (by omega)
  have c2 : (ii (i + 2)).toNatClampNeg = i + 2 := ii_cl (by omega)
  unfold f_law_c14
  simp only [e0, e1, e2, e3, e4, e5, e6, e7, e8, e9, e36, e37, e38, e39, e40, e45, e46, e47, e48, show ii i + (1 : Int32) = ii (i + 1) from ii_a i 1, show ii i + (2 : Int32) = ii (i + 2) from ii_a i 2, show ii i + (5 : Int32) = ii (i + 5) from ii_a i 5, gd_t v1, gd_t v2, c1, c2]
  obtain ⟨k, a0, a1, a2, a3, a4, a5, a6, a7, a8, a9, a10, o, v, q1, q2, hk⟩ := LM_image hG (xs (i + 1)) (xs (i + 2)) s.2.2.2.2.2.2.2.2.2.2.1 s.2.2.2.2.2.2.2.2.2.2.2.1 s.2.2.2.2.2.2.2.2.2.2.2.2.1 s.2.2.2.2.2.2.2.2.2.2.2.2.2.1 s.2.2.2.2.2.2.2.2.2.2.2.2.2.2.1 s.2.2.2.2.2.2.2.2.2.2.2.2.2.2.2.1 s.2.2.2.2.2.2.2.2.2.2.2.2.2.2.2.2.1 s.2.2.2.2.2.2.2.2.2.2.2.2.2.2.2.2.2.2.2.2.2.2.2.2.2.2.2.1 s.2.2.2.2.2.2.2.2.2.2.2.2.2.2.2.2.2.2.2.2.2.2.2.2.2.2.2.2.1 s.2.2.2.2.2.2.2.2.2.2.2.2.2.2.2.2.2.2.2.2.2.2.2.2.2.2.2.2.2.1 s.2.2.2.2.2.2.2.2.2.2.2.2.2.2.2.2.2.2.2.2.2.2.2.2.2.2.2.2.2.2.1 s.2.2.2.2.2.2.2.2.2.2.2.2.2.2.2.2.2.2.2.2.2.2.2.2.2.2.2.2.2.2.2.2.2.2.2.2.2.2.2.2.2.2.2.2.2.2.2.2.2.2
  rw [bd_s q1]
  try simp only []
  rw [bd_s q2]
  try simp only []
  rw [bd_s (show f_X8_thrown k = some k from rfl), if_pos rfl]
  by_cases h0 : k = 0
  · obtain ⟨rfl, hm⟩ := hk h0
    rw [if_pos h0]
    simp only [dcs hm (by decide)]
    first
    | exact hK _ ⟨n, pl, hf, pw, gl, th, sc, ta, re, hG, rfl, rfl, rfl, rfl, rfl, rfl, rfl, rfl, rfl, rfl, rfl, rfl, rfl, rfl, rfl, rfl, rfl, rfl, rfl⟩
    | (rw [if_pos rfl]; exact hK _ ⟨n, pl, hf, pw, gl, th, sc, ta, re, hG, rfl, rfl, rfl, rfl, rfl, rfl, rfl, rfl, rfl, rfl, rfl, rfl, rfl, rfl, rfl, rfl, rfl, rfl, rfl⟩)
    | (rw [if_pos True.intro]; exact hK _ ⟨n, pl, hf, pw, gl, th, sc, ta, re, hG, rfl, rfl, rfl, rfl, rfl, rfl, rfl, rfl, rfl, rfl, rfl, rfl, rfl, rfl, rfl, rfl, rfl, rfl, rfl⟩)
    | (simp only [if_true, if_false, ite_true, ite_false, not_true_eq_false, not_false_eq_true, ne_eq]; exact hK _ ⟨n, pl, hf, pw, gl, th, sc, ta, re, hG, rfl, rfl, rfl, rfl, rfl, rfl, rfl, rfl, rfl, rfl, rfl, rfl, rfl, rfl, rfl, rfl, rfl, rfl, rfl⟩)
  · rw [if_neg h0]
    exact hK _ ⟨n, pl, hf, pw, gl, th, sc, ta, re, hG, rfl, rfl, rfl, rfl, rfl, rfl, rfl, rfl, rfl, rfl, rfl, rfl, rfl, rfl, rfl, rfl, rfl, rfl, rfl⟩
set_option maxRecDepth 100000 in
set_option maxHeartbeats 4000000 in
theorem law_p15 {n : Nat} {pl hf pw gl : Nat → Int32} {th sc ta re : Int32} (hG : Gd n pl hf pw gl th sc ta) {xs : Nat → Int32} {L i : Nat} (hi : i + 5 ≤ L) (hL : L ≤ 2560) {s : LawS} (hs : Eqs n pl hf pw gl th sc ta re i s) {K : LawS → Option Int32} (hK : ∀ s2, Inv (i + 5) s2 → K s2 = some 1) : f_law_c15 xs L s K = some 1 := by
  obtain ⟨e0, e1, e2, e3, e4, e5, e6, e7, e8, e9, e36, e37, e38, e39, e40, e45, e46, e47, e48⟩ := hs
  have v1 : vin (ii (i + 1)) L = true := vin_ii (by omega) (by omega)
  have c1 : (ii (i + 1)).toNatClampNeg = i + 1 := ii_cl (by omega)
  unfold f_law_c15
  simp only [e0, e1, e2, e3, e4, e5, e6, e7, e8, e9, e36, e37, e38, e39, e40, e45, e46, e47, e48, show ii i + (1 : Int32) = ii (i + 1) from ii_a i 1, show ii i + (5 : Int32) = ii (i + 5) from ii_a i 5, gd_t v1, c1]
  obtain ⟨k, a0, a1, a2, a3, a4, a5, a6, a7, a8, a9, a10, a11, a12, a13, a14, a15, a16, a17, a18, a19, o, v, h', u', c', q1, q2, hk⟩ := LM_many (re := re) hG (xs (i + 1)) s.2.2.2.2.2.2.2.2.2.2.1 s.2.2.2.2.2.2.2.2.2.2.2.1 s.2.2.2.2.2.2.2.2.2.2.2.2.1 s.2.2.2.2.2.2.2.2.2.2.2.2.2.1 s.2.2.2.2.2.2.2.2.2.2.2.2.2.2.1 s.2.2.2.2.2.2.2.2.2.2.2.2.2.2.2.1 s.2.2.2.2.2.2.2.2.2.2.2.2.2.2.2.2.1 s.2.2.2.2.2.2.2.2.2.2.2.2.2.2.2.2.2.2.2.2.1 s.2.2.2.2.2.2.2.2.2.2.2.2.2.2.2.2.2.2.2.2.2.1 s.2.2.2.2.2.2.2.2.2.2.2.2.2.2.2.2.2.2.2.2.2.2.1 s.2.2.2.2.2.2.2.2.2.2.2.2.2.2.2.2.2.2.2.2.2.2.2.1 s.2.2.2.2.2.2.2.2.2.2.2.2.2.2.2.2.2.2.2.2.2.2.2.2.1 s.2.2.2.2.2.2.2.2.2.2.2.2.2.2.2.2.2.2.2.2.2.2.2.2.2.1 s.2.2.2.2.2.2.2.2.2.2.2.2.2.2.2.2.2.2.2.2.2.2.2.2.2.2.1 s.2.2.2.2.2.2.2.2.2.2.2.2.2.2.2.2.2.2.2.2.2.2.2.2.2.2.2.1 s.2.2.2.2.2.2.2.2.2.2.2.2.2.2.2.2.2.2.2.2.2.2.2.2.2.2.2.2.1 s.2.2.2.2.2.2.2.2.2.2.2.2.2.2.2.2.2.2.2.2.2.2.2.2.2.2.2.2.2.1 s.2.2.2.2.2.2.2.2.2.2.2.2.2.2.2.2.2.2.2.2.2.2.2.2.2.2.2.2.2.2.1 s.2.2.2.2.2.2.2.2.2.2.2.2.2.2.2.2.2.2.2.2.2.2.2.2.2.2.2.2.2.2.2.1 s.2.2.2.2.2.2.2.2.2.2.2.2.2.2.2.2.2.2.2.2.2.2.2.2.2.2.2.2.2.2.2.2.1 s.2.2.2.2.2.2.2.2.2.2.2.2.2.2.2.2.2.2.2.2.2.2.2.2.2.2.2.2.2.2.2.2.2.2.2.2.2.2.2.2.2.2.2.2.2.2.2.2.2.1 s.2.2.2.2.2.2.2.2.2.2.2.2.2.2.2.2.2.2.2.2.2.2.2.2.2.2.2.2.2.2.2.2.2.2.2.2.2.2.2.2.2.1 s.2.2.2.2.2.2.2.2.2.2.2.2.2.2.2.2.2.2.2.2.2.2.2.2.2.2.2.2.2.2.2.2.2.2.2.2.2.2.2.2.2.2.1 s.2.2.2.2.2.2.2.2.2.2.2.2.2.2.2.2.2.2.2.2.2.2.2.2.2.2.2.2.2.2.2.2.2.2.2.2.2.2.2.2.2.2.2.1
  rw [bd_s q1]
  try simp only []
  rw [bd_s q2]
  try simp only []
  rw [bd_s (show f_X8_thrown k = some k from rfl), if_pos rfl]
  by_cases h0 : k = 0
  · rw [if_pos h0, hk h0, lgc, if_pos rfl]
    exact hK _ ⟨n, pl, hf, pw, gl, th, sc, ta, re, hG, rfl, rfl, rfl, rfl, rfl, rfl, rfl, rfl, rfl, rfl, rfl, rfl, rfl, rfl, rfl, rfl, rfl, rfl, rfl⟩
  · rw [if_neg h0]
    exact hK _ ⟨n, pl, hf, pw, gl, th, sc, ta, re, hG, rfl, rfl, rfl, rfl, rfl, rfl, rfl, rfl, rfl, rfl, rfl, rfl, rfl, rfl, rfl, rfl, rfl, rfl, rfl⟩
set_option maxRecDepth 100000 in
set_option maxHeartbeats 4000000 in
theorem law_p16 {n : Nat} {pl hf pw gl : Nat → Int32} {th sc ta re : Int32} (hG : Gd n pl hf pw gl th sc ta) {xs : Nat → Int32} {L i : Nat} (hi : i + 5 ≤ L) (hL : L ≤ 2560) {s : LawS} (hs : Eqs n pl hf pw gl th sc ta re i s) {K : LawS → Option Int32} (hK : ∀ s2, Inv (i + 5) s2 → K s2 = some 1) : f_law_c16 xs L s K = some 1 := by
  obtain ⟨e0, e1, e2, e3, e4, e5, e6, e7, e8, e9, e36, e37, e38, e39, e40, e45, e46, e47, e48⟩ := hs
  have v1 : vin (ii (i + 1)) L = true := vin_ii (by omega) (by omega)
  have c1 : (ii (i + 1)).toNatClampNeg = i + 1 := ii_cl (by omega)
  unfold f_law_c16
  simp only [e0, e1, e2, e3, e4, e5, e6, e7, e8, e9, e36, e37, e38, e39, e40, e45, e46, e47, e48, show ii i + (1 : Int32) = ii (i + 1) from ii_a i 1, show ii i + (5 : Int32) = ii (i + 5) from ii_a i 5, gd_t v1, c1]
  obtain ⟨k, a0, a1, a2, a3, a4, a5, a6, a7, a8, a9, a10, a11, a12, a13, o, v, h', u', c', q1, q2, hk⟩ := LM_through hG (xs (i + 1)) s.2.2.2.2.2.2.2.2.2.2.1 s.2.2.2.2.2.2.2.2.2.2.2.1 s.2.2.2.2.2.2.2.2.2.2.2.2.1 s.2.2.2.2.2.2.2.2.2.2.2.2.2.1 s.2.2.2.2.2.2.2.2.2.2.2.2.2.2.1 s.2.2.2.2.2.2.2.2.2.2.2.2.2.2.2.1 s.2.2.2.2.2.2.2.2.2.2.2.2.2.2.2.2.1 s.2.2.2.2.2.2.2.2.2.2.2.2.2.2.2.2.2.2.2.2.1 s.2.2.2.2.2.2.2.2.2.2.2.2.2.2.2.2.2.2.2.2.2.1 s.2.2.2.2.2.2.2.2.2.2.2.2.2.2.2.2.2.2.2.2.2.2.1 s.2.2.2.2.2.2.2.2.2.2.2.2.2.2.2.2.2.2.2.2.2.2.2.1 s.2.2.2.2.2.2.2.2.2.2.2.2.2.2.2.2.2.2.2.2.2.2.2.2.1 s.2.2.2.2.2.2.2.2.2.2.2.2.2.2.2.2.2.2.2.2.2.2.2.2.2.1 s.2.2.2.2.2.2.2.2.2.2.2.2.2.2.2.2.2.2.2.2.2.2.2.2.2.2.1 s.2.2.2.2.2.2.2.2.2.2.2.2.2.2.2.2.2.2.2.2.2.2.2.2.2.2.2.2.2.2.2.2.2.2.2.2.2.2.2.2.2.2.2.2.2.2.2.2.2.1 s.2.2.2.2.2.2.2.2.2.2.2.2.2.2.2.2.2.2.2.2.2.2.2.2.2.2.2.2.2.2.2.2.2.2.2.2.2.2.2.2.2.1 s.2.2.2.2.2.2.2.2.2.2.2.2.2.2.2.2.2.2.2.2.2.2.2.2.2.2.2.2.2.2.2.2.2.2.2.2.2.2.2.2.2.2.1 s.2.2.2.2.2.2.2.2.2.2.2.2.2.2.2.2.2.2.2.2.2.2.2.2.2.2.2.2.2.2.2.2.2.2.2.2.2.2.2.2.2.2.2.1
  rw [bd_s q1]
  try simp only []
  rw [bd_s q2]
  try simp only []
  rw [bd_s (show f_X8_thrown k = some k from rfl), if_pos rfl]
  by_cases h0 : k = 0
  · rw [if_pos h0, hk h0, lgc, if_pos rfl]
    exact hK _ ⟨n, pl, hf, pw, gl, th, sc, ta, re, hG, rfl, rfl, rfl, rfl, rfl, rfl, rfl, rfl, rfl, rfl, rfl, rfl, rfl, rfl, rfl, rfl, rfl, rfl, rfl⟩
  · rw [if_neg h0]
    exact hK _ ⟨n, pl, hf, pw, gl, th, sc, ta, re, hG, rfl, rfl, rfl, rfl, rfl, rfl, rfl, rfl, rfl, rfl, rfl, rfl, rfl, rfl, rfl, rfl, rfl, rfl, rfl⟩
set_option maxRecDepth 100000 in
set_option maxHeartbeats 4000000 in
theorem law_p17 {n : Nat} {pl hf pw gl : Nat → Int32} {th sc ta re : Int32} (hG : Gd n pl hf pw gl th sc ta) {xs : Nat → Int32} {L i : Nat} (hi : i + 5 ≤ L) (hL : L ≤ 2560) {s : LawS} (hs : Eqs n pl hf pw gl th sc ta re i s) {K : LawS → Option Int32} (hK : ∀ s2, Inv (i + 5) s2 → K s2 = some 1) : f_law_c17 xs L s K = some 1 := by
  obtain ⟨e0, e1, e2, e3, e4, e5, e6, e7, e8, e9, e36, e37, e38, e39, e40, e45, e46, e47, e48⟩ := hs
  unfold f_law_c17
  simp only [e0, e1, e2, e3, e4, e5, e6, e7, e8, e9, e36, e37, e38, e39, e40, e45, e46, e47, e48, show ii i + (5 : Int32) = ii (i + 5) from ii_a i 5]
  obtain ⟨k9, t9, w9, N', P', H', B', cA, gA, gB, q1, q2, hq⟩ := LM_rail hG s.2.2.2.2.2.2.2.2.2.2.2.2.2.1 s.2.2.2.2.2.2.2.2.2.2.2.2.2.2.1 s.2.2.2.2.2.2.2.2.2.2.2.2.2.2.2.1 s.2.2.2.2.2.2.2.2.2.2.2.2.2.2.2.2.1
  rw [bd_s q1]
  try simp only []
  rw [bd_s q2]
  try simp only []
  rw [gd_t hq]
  exact hK _ ⟨n, pl, hf, pw, gl, th, sc, ta, re, hG, rfl, rfl, rfl, rfl, rfl, rfl, rfl, rfl, rfl, rfl, rfl, rfl, rfl, rfl, rfl, rfl, rfl, rfl, rfl⟩
set_option maxRecDepth 100000 in
set_option maxHeartbeats 4000000 in
theorem law_p18 {n : Nat} {pl hf pw gl : Nat → Int32} {th sc ta re : Int32} (hG : Gd n pl hf pw gl th sc ta) {xs : Nat → Int32} {L i : Nat} (hi : i + 5 ≤ L) (hL : L ≤ 2560) {s : LawS} (hs : Eqs n pl hf pw gl th sc ta re i s) {K : LawS → Option Int32} (hK : ∀ s2, Inv (i + 5) s2 → K s2 = some 1) : f_law_c18 xs L s K = some 1 := by
  obtain ⟨e0, e1, e2, e3, e4, e5, e6, e7, e8, e9, e36, e37, e38, e39, e40, e45, e46, e47, e48⟩ := hs
  unfold f_law_c18
  simp only [e0, e1, e2, e3, e4, e5, e6, e7, e8, e9, e36, e37, e38, e39, e40, e45, e46, e47, e48, show ii i + (5 : Int32) = ii (i + 5) from ii_a i 5]
  obtain ⟨v, z, h', q1, q2, hm⟩ := LM_grasp hG s.2.2.2.2.2.2.2.2.2.2.2.2.2.1 s.2.2.2.2.2.2.2.2.2.2.2.2.2.2.1 s.2.2.2.2.2.2.2.2.2.2.2.2.2.2.2.1 s.2.2.2.2.2.2.2.2.2.2.2.2.2.2.2.2.1
  rw [bd_s q1]
  try simp only []
  rw [bd_s q2]
  try simp only []
  simp only [dcs hm (by decide)]
  first
  | exact hK _ ⟨n, pl, hf, pw, gl, th, sc, ta, re, hG, rfl, rfl, rfl, rfl, rfl, rfl, rfl, rfl, rfl, rfl, rfl, rfl, rfl, rfl, rfl, rfl, rfl, rfl, rfl⟩
  | (rw [if_pos rfl]; exact hK _ ⟨n, pl, hf, pw, gl, th, sc, ta, re, hG, rfl, rfl, rfl, rfl, rfl, rfl, rfl, rfl, rfl, rfl, rfl, rfl, rfl, rfl, rfl, rfl, rfl, rfl, rfl⟩)
  | (rw [if_pos True.intro]; exact hK _ ⟨n, pl, hf, pw, gl, th, sc, ta, re, hG, rfl, rfl, rfl, rfl, rfl, rfl, rfl, rfl, rfl, rfl, rfl, rfl, rfl, rfl, rfl, rfl, rfl, rfl, rfl⟩)
  | (simp only [if_true, if_false, ite_true, ite_false, not_true_eq_false, not_false_eq_true, ne_eq]; exact hK _ ⟨n, pl, hf, pw, gl, th, sc, ta, re, hG, rfl, rfl, rfl, rfl, rfl, rfl, rfl, rfl, rfl, rfl, rfl, rfl, rfl, rfl, rfl, rfl, rfl, rfl, rfl⟩)
set_option maxRecDepth 100000 in
set_option maxHeartbeats 4000000 in
theorem law_p19 {n : Nat} {pl hf pw gl : Nat → Int32} {th sc ta re : Int32} (hG : Gd n pl hf pw gl th sc ta) {xs : Nat → Int32} {L i : Nat} (hi : i + 5 ≤ L) (hL : L ≤ 2560) {s : LawS} (hs : Eqs n pl hf pw gl th sc ta re i s) {K : LawS → Option Int32} (hK : ∀ s2, Inv (i + 5) s2 → K s2 = some 1) : f_law_c19 xs L s K = some 1 := by
  obtain ⟨e0, e1, e2, e3, e4, e5, e6, e7, e8, e9, e36, e37, e38, e39, e40, e45, e46, e47, e48⟩ := hs
  have v1 : vin (ii (i + 1)) L = true := vin_ii (by omega) (by omega)
  have c1 : (ii (i + 1)).toNatClampNeg = i + 1 := ii_cl (by omega)
  unfold f_law_c19
  simp only [e0, e1, e2, e3, e4, e5, e6, e7, e8, e9, e36, e37, e38, e39, e40, e45, e46, e47, e48, show ii i + (1 : Int32) = ii (i + 1) from ii_a i 1, show ii i + (5 : Int32) = ii (i + 5) from ii_a i 5, gd_t v1, c1]
  obtain ⟨k, a0, a1, a2, a3, a4, a5, a6, a7, a8, a9, a10, a11, a12, a13, o, v, h', u', c', q1, q2, hk⟩ := LM_blur hG (xs (i + 1)) s.2.2.2.2.2.2.2.2.2.2.1 s.2.2.2.2.2.2.2.2.2.2.2.1 s.2.2.2.2.2.2.2.2.2.2.2.2.1 s.2.2.2.2.2.2.2.2.2.2.2.2.2.1 s.2.2.2.2.2.2.2.2.2.2.2.2.2.2.1 s.2.2.2.2.2.2.2.2.2.2.2.2.2.2.2.1 s.2.2.2.2.2.2.2.2.2.2.2.2.2.2.2.2.1 s.2.2.2.2.2.2.2.2.2.2.2.2.2.2.2.2.2.2.2.2.1 s.2.2.2.2.2.2.2.2.2.2.2.2.2.2.2.2.2.2.2.2.2.1 s.2.2.2.2.2.2.2.2.2.2.2.2.2.2.2.2.2.2.2.2.2.2.1 s.2.2.2.2.2.2.2.2.2.2.2.2.2.2.2.2.2.2.2.2.2.2.2.1 s.2.2.2.2.2.2.2.2.2.2.2.2.2.2.2.2.2.2.2.2.2.2.2.2.1 s.2.2.2.2.2.2.2.2.2.2.2.2.2.2.2.2.2.2.2.2.2.2.2.2.2.1 s.2.2.2.2.2.2.2.2.2.2.2.2.2.2.2.2.2.2.2.2.2.2.2.2.2.2.1 s.2.2.2.2.2.2.2.2.2.2.2.2.2.2.2.2.2.2.2.2.2.2.2.2.2.2.2.2.2.2.2.2.2.2.2.2.2.2.2.2.2.2.2.2.2.2.2.2.2.2 s.2.2.2.2.2.2.2.2.2.2.2.2.2.2.2.2.2.2.2.2.2.2.2.2.2.2.2.2.2.2.2.2.2.2.2.2.2.2.2.2.2.1 s.2.2.2.2.2.2.2.2.2.2.2.2.2.2.2.2.2.2.2.2.2.2.2.2.2.2.2.2.2.2.2.2.2.2.2.2.2.2.2.2.2.2.1 s.2.2.2.2.2.2.2.2.2.2.2.2.2.2.2.2.2.2.2.2.2.2.2.2.2.2.2.2.2.2.2.2.2.2.2.2.2.2.2.2.2.2.2.1
  rw [bd_s q1]
  try simp only []
  rw [bd_s q2]
  try simp only []
  rw [bd_s (show f_X8_thrown k = some k from rfl), if_pos rfl]
  by_cases h0 : k = 0
  · obtain ⟨rfl, hm⟩ := hk h0
    rw [if_pos h0]
    simp only [dcs hm (by decide)]
    first
    | exact hK _ ⟨n, pl, hf, pw, gl, th, sc, ta, re, hG, rfl, rfl, rfl, rfl, rfl, rfl, rfl, rfl, rfl, rfl, rfl, rfl, rfl, rfl, rfl, rfl, rfl, rfl, rfl⟩
    | (rw [if_pos rfl]; exact hK _ ⟨n, pl, hf, pw, gl, th, sc, ta, re, hG, rfl, rfl, rfl, rfl, rfl, rfl, rfl, rfl, rfl, rfl, rfl, rfl, rfl, rfl, rfl, rfl, rfl, rfl, rfl⟩)
    | (rw [if_pos True.intro]; exact hK _ ⟨n, pl, hf, pw, gl, th, sc, ta, re, hG, rfl, rfl, rfl, rfl, rfl, rfl, rfl, rfl, rfl, rfl, rfl, rfl, rfl, rfl, rfl, rfl, rfl, rfl, rfl⟩)
    | (simp only [if_true, if_false, ite_true, ite_false, not_true_eq_false, not_false_eq_true, ne_eq]; exact hK _ ⟨n, pl, hf, pw, gl, th, sc, ta, re, hG, rfl, rfl, rfl, rfl, rfl, rfl, rfl, rfl, rfl, rfl, rfl, rfl, rfl, rfl, rfl, rfl, rfl, rfl, rfl⟩)
  · rw [if_neg h0]
    exact hK _ ⟨n, pl, hf, pw, gl, th, sc, ta, re, hG, rfl, rfl, rfl, rfl, rfl, rfl, rfl, rfl, rfl, rfl, rfl, rfl, rfl, rfl, rfl, rfl, rfl, rfl, rfl⟩
set_option maxRecDepth 100000 in
set_option maxHeartbeats 4000000 in
theorem law_p20 {n : Nat} {pl hf pw gl : Nat → Int32} {th sc ta re : Int32} (hG : Gd n pl hf pw gl th sc ta) {xs : Nat → Int32} {L i : Nat} (hi : i + 5 ≤ L) (hL : L ≤ 2560) {s : LawS} (hs : Eqs n pl hf pw gl th sc ta re i s) {K : LawS → Option Int32} (hK : ∀ s2, Inv (i + 5) s2 → K s2 = some 1) : f_law_c20 xs L s K = some 1 := by
  obtain ⟨e0, e1, e2, e3, e4, e5, e6, e7, e8, e9, e36, e37, e38, e39, e40, e45, e46, e47, e48⟩ := hs
  unfold f_law_c20
  simp only [e0, e1, e2, e3, e4, e5, e6, e7, e8, e9, e36, e37, e38, e39, e40, e45, e46, e47, e48, show ii i + (5 : Int32) = ii (i + 5) from ii_a i 5]
  obtain ⟨v, z, q1, q2, hm⟩ := LM_apart hG s.2.2.2.2.2.2.2.2.2.2.2.2.2.1 s.2.2.2.2.2.2.2.2.2.2.2.2.2.2.1 s.2.2.2.2.2.2.2.2.2.2.2.2.2.2.2.1 s.2.2.2.2.2.2.2.2.2.2.2.2.2.2.2.2.1
  rw [bd_s q1]
  try simp only []
  rw [bd_s q2]
  try simp only []
  simp only [dcs hm (by decide)]
  first
  | exact hK _ ⟨n, pl, hf, pw, gl, th, sc, ta, re, hG, rfl, rfl, rfl, rfl, rfl, rfl, rfl, rfl, rfl, rfl, rfl, rfl, rfl, rfl, rfl, rfl, rfl, rfl, rfl⟩
  | (rw [if_pos rfl]; exact hK _ ⟨n, pl, hf, pw, gl, th, sc, ta, re, hG, rfl, rfl, rfl, rfl, rfl, rfl, rfl, rfl, rfl, rfl, rfl, rfl, rfl, rfl, rfl, rfl, rfl, rfl, rfl⟩)
  | (rw [if_pos True.intro]; exact hK _ ⟨n, pl, hf, pw, gl, th, sc, ta, re, hG, rfl, rfl, rfl, rfl, rfl, rfl, rfl, rfl, rfl, rfl, rfl, rfl, rfl, rfl, rfl, rfl, rfl, rfl, rfl⟩)
  | (simp only [if_true, if_false, ite_true, ite_false, not_true_eq_false, not_false_eq_true, ne_eq]; exact hK _ ⟨n, pl, hf, pw, gl, th, sc, ta, re, hG, rfl, rfl, rfl, rfl, rfl, rfl, rfl, rfl, rfl, rfl, rfl, rfl, rfl, rfl, rfl, rfl, rfl, rfl, rfl⟩)
set_option maxRecDepth 100000 in
set_option maxHeartbeats 4000000 in
theorem law_p21 {n : Nat} {pl hf pw gl : Nat → Int32} {th sc ta re : Int32} (hG : Gd n pl hf pw gl th sc ta) {xs : Nat → Int32} {L i : Nat} (hi : i + 5 ≤ L) (hL : L ≤ 2560) {s : LawS} (hs : Eqs n pl hf pw gl th sc ta re i s) {K : LawS → Option Int32} (hK : ∀ s2, Inv (i + 5) s2 → K s2 = some 1) : f_law_c21 xs L s K = some 1 := by
  obtain ⟨e0, e1, e2, e3, e4, e5, e6, e7, e8, e9, e36, e37, e38, e39, e40, e45, e46, e47, e48⟩ := hs
  have v1 : vin (ii (i + 1)) L = true := vin_ii (by omega) (by omega)
  have c1 : (ii (i + 1)).toNatClampNeg = i + 1 := ii_cl (by omega)
  unfold f_law_c21
  simp only [e0, e1, e2, e3, e4, e5, e6, e7, e8, e9, e36, e37, e38, e39, e40, e45, e46, e47, e48, show ii i + (1 : Int32) = ii (i + 1) from ii_a i 1, show ii i + (5 : Int32) = ii (i + 5) from ii_a i 5, gd_t v1, c1]
  obtain ⟨k, a0, a1, a2, a3, a4, a5, a6, a7, a8, a9, a10, a11, a12, a13, a14, a15, o, v, h', u', c', q1, q2, hk⟩ := LM_sharp (re := re) hG (xs (i + 1)) s.2.2.2.2.2.2.2.2.2.2.1 s.2.2.2.2.2.2.2.2.2.2.2.1 s.2.2.2.2.2.2.2.2.2.2.2.2.1 s.2.2.2.2.2.2.2.2.2.2.2.2.2.1 s.2.2.2.2.2.2.2.2.2.2.2.2.2.2.1 s.2.2.2.2.2.2.2.2.2.2.2.2.2.2.2.1 s.2.2.2.2.2.2.2.2.2.2.2.2.2.2.2.2.1 s.2.2.2.2.2.2.2.2.2.2.2.2.2.2.2.2.2.2.2.2.1 s.2.2.2.2.2.2.2.2.2.2.2.2.2.2.2.2.2.2.2.2.2.1 s.2.2.2.2.2.2.2.2.2.2.2.2.2.2.2.2.2.2.2.2.2.2.1 s.2.2.2.2.2.2.2.2.2.2.2.2.2.2.2.2.2.2.2.2.2.2.2.1 s.2.2.2.2.2.2.2.2.2.2.2.2.2.2.2.2.2.2.2.2.2.2.2.2.1 s.2.2.2.2.2.2.2.2.2.2.2.2.2.2.2.2.2.2.2.2.2.2.2.2.2.1 s.2.2.2.2.2.2.2.2.2.2.2.2.2.2.2.2.2.2.2.2.2.2.2.2.2.2.1 s.2.2.2.2.2.2.2.2.2.2.2.2.2.2.2.2.2.2.2.2.2.2.2.2.2.2.2.2.2.2.2.2.2.1 s.2.2.2.2.2.2.2.2.2.2.2.2.2.2.2.2.2.2.2.2.2.2.2.2.2.2.2.2.2.2.2.2.2.2.1 s.2.2.2.2.2.2.2.2.2.2.2.2.2.2.2.2.2.2.2.2.2.2.2.2.2.2.2.2.2.2.2.2.2.2.2.2.2.2.2.2.2.2.2.2.2.2.2.2.2.1 s.2.2.2.2.2.2.2.2.2.2.2.2.2.2.2.2.2.2.2.2.2.2.2.2.2.2.2.2.2.2.2.2.2.2.2.2.2.2.2.2.2.1 s.2.2.2.2.2.2.2.2.2.2.2.2.2.2.2.2.2.2.2.2.2.2.2.2.2.2.2.2.2.2.2.2.2.2.2.2.2.2.2.2.2.2.1 s.2.2.2.2.2.2.2.2.2.2.2.2.2.2.2.2.2.2.2.2.2.2.2.2.2.2.2.2.2.2.2.2.2.2.2.2.2.2.2.2.2.2.2.1
  rw [bd_s q1]
  try simp only []
  rw [bd_s q2]
  try simp only []
  rw [bd_s (show f_X8_thrown k = some k from rfl), if_pos rfl]
  by_cases h0 : k = 0
  · rw [if_pos h0, hk h0, lgc, if_pos rfl]
    exact hK _ ⟨n, pl, hf, pw, gl, th, sc, ta, re, hG, rfl, rfl, rfl, rfl, rfl, rfl, rfl, rfl, rfl, rfl, rfl, rfl, rfl, rfl, rfl, rfl, rfl, rfl, rfl⟩
  · rw [if_neg h0]
    exact hK _ ⟨n, pl, hf, pw, gl, th, sc, ta, re, hG, rfl, rfl, rfl, rfl, rfl, rfl, rfl, rfl, rfl, rfl, rfl, rfl, rfl, rfl, rfl, rfl, rfl, rfl, rfl⟩
set_option maxRecDepth 100000 in
set_option maxHeartbeats 4000000 in
theorem law_p22 {n : Nat} {pl hf pw gl : Nat → Int32} {th sc ta re : Int32} (hG : Gd n pl hf pw gl th sc ta) {xs : Nat → Int32} {L i : Nat} (hi : i + 5 ≤ L) (hL : L ≤ 2560) {s : LawS} (hs : Eqs n pl hf pw gl th sc ta re i s) {K : LawS → Option Int32} (hK : ∀ s2, Inv (i + 5) s2 → K s2 = some 1) : f_law_c22 xs L s K = some 1 := by
  obtain ⟨e0, e1, e2, e3, e4, e5, e6, e7, e8, e9, e36, e37, e38, e39, e40, e45, e46, e47, e48⟩ := hs
  have v1 : vin (ii (i + 1)) L = true := vin_ii (by omega) (by omega)
  have c1 : (ii (i + 1)).toNatClampNeg = i + 1 := ii_cl (by omega)
  have v2 : vin (ii (i + 2)) L = true := vin_ii (by omega) (by omega)
  have c2 : (ii (i + 2)).toNatClampNeg = i + 2 := ii_cl (by omega)
  unfold f_law_c22
  simp only [e0, e1, e2, e3, e4, e5, e6, e7, e8, e9, e36, e37, e38, e39, e40, e45, e46, e47, e48, show ii i + (1 : Int32) = ii (i + 1) from ii_a i 1, show ii i + (2 : Int32) = ii (i + 2) from ii_a i 2, show ii i + (5 : Int32) = ii (i + 5) from ii_a i 5, gd_t v1, gd_t v2, c1, c2]
  obtain ⟨k, a0, a1, a2, a3, a4, a5, a6, a7, a8, a9, a10, a11, a12, a13, a14, a15, o, v, h', u', c', q1, q2, hk⟩ := LM_best hG (xs (i + 1)) (xs (i + 2)) s.2.2.2.2.2.2.2.2.2.2.1 s.2.2.2.2.2.2.2.2.2.2.2.1 s.2.2.2.2.2.2.2.2.2.2.2.2.1 s.2.2.2.2.2.2.2.2.2.2.2.2.2.1 s.2.2.2.2.2.2.2.2.2.2.2.2.2.2.1 s.2.2.2.2.2.2.2.2.2.2.2.2.2.2.2.1 s.2.2.2.2.2.2.2.2.2.2.2.2.2.2.2.2.1 s.2.2.2.2.2.2.2.2.2.2.2.2.2.2.2.2.2.2.2.2.1 s.2.2.2.2.2.2.2.2.2.2.2.2.2.2.2.2.2.2.2.2.2.1 s.2.2.2.2.2.2.2.2.2.2.2.2.2.2.2.2.2.2.2.2.2.2.1 s.2.2.2.2.2.2.2.2.2.2.2.2.2.2.2.2.2.2.2.2.2.2.2.1 s.2.2.2.2.2.2.2.2.2.2.2.2.2.2.2.2.2.2.2.2.2.2.2.2.1 s.2.2.2.2.2.2.2.2.2.2.2.2.2.2.2.2.2.2.2.2.2.2.2.2.2.1 s.2.2.2.2.2.2.2.2.2.2.2.2.2.2.2.2.2.2.2.2.2.2.2.2.2.2.1 s.2.2.2.2.2.2.2.2.2.2.2.2.2.2.2.2.2.2.2.2.2.2.2.2.2.2.2.2.2.2.2.2.2.1 s.2.2.2.2.2.2.2.2.2.2.2.2.2.2.2.2.2.2.2.2.2.2.2.2.2.2.2.2.2.2.2.2.2.2.1 s.2.2.2.2.2.2.2.2.2.2.2.2.2.2.2.2.2.2.2.2.2.2.2.2.2.2.2.2.2.2.2.2.2.2.2.2.2.2.2.2.2.2.2.2.2.2.2.2.2.1 s.2.2.2.2.2.2.2.2.2.2.2.2.2.2.2.2.2.2.2.2.2.2.2.2.2.2.2.2.2.2.2.2.2.2.2.2.2.2.2.2.2.1 s.2.2.2.2.2.2.2.2.2.2.2.2.2.2.2.2.2.2.2.2.2.2.2.2.2.2.2.2.2.2.2.2.2.2.2.2.2.2.2.2.2.2.1 s.2.2.2.2.2.2.2.2.2.2.2.2.2.2.2.2.2.2.2.2.2.2.2.2.2.2.2.2.2.2.2.2.2.2.2.2.2.2.2.2.2.2.2.1
  rw [bd_s q1]
  try simp only []
  rw [bd_s q2]
  try simp only []
  rw [bd_s (show f_X8_thrown k = some k from rfl), if_pos rfl]
  by_cases h0 : k = 0
  · rw [if_pos h0, hk h0, lgc, if_pos rfl]
    exact hK _ ⟨n, pl, hf, pw, gl, th, sc, ta, re, hG, rfl, rfl, rfl, rfl, rfl, rfl, rfl, rfl, rfl, rfl, rfl, rfl, rfl, rfl, rfl, rfl, rfl, rfl, rfl⟩
  · rw [if_neg h0]
    exact hK _ ⟨n, pl, hf, pw, gl, th, sc, ta, re, hG, rfl, rfl, rfl, rfl, rfl, rfl, rfl, rfl, rfl, rfl, rfl, rfl, rfl, rfl, rfl, rfl, rfl, rfl, rfl⟩
set_option maxRecDepth 100000 in
set_option maxHeartbeats 4000000 in
theorem law_p23 {n : Nat} {pl hf pw gl : Nat → Int32} {th sc ta re : Int32} (hG : Gd n pl hf pw gl th sc ta) {xs : Nat → Int32} {L i : Nat} (hi : i + 5 ≤ L) (hL : L ≤ 2560) {s : LawS} (hs : Eqs n pl hf pw gl th sc ta re i s) {K : LawS → Option Int32} (hK : ∀ s2, Inv (i + 5) s2 → K s2 = some 1) : f_law_c23 xs L s K = some 1 := by
  obtain ⟨e0, e1, e2, e3, e4, e5, e6, e7, e8, e9, e36, e37, e38, e39, e40, e45, e46, e47, e48⟩ := hs
  have v1 : vin (ii (i + 1)) L = true := vin_ii (by omega) (by omega)
  have c1 : (ii (i + 1)).toNatClampNeg = i + 1 := ii_cl (by omega)
  unfold f_law_c23
  simp only [e0, e1, e2, e3, e4, e5, e6, e7, e8, e9, e36, e37, e38, e39, e40, e45, e46, e47, e48, show ii i + (1 : Int32) = ii (i + 1) from ii_a i 1, show ii i + (5 : Int32) = ii (i + 5) from ii_a i 5, gd_t v1, c1]
  obtain ⟨k, a0, a1, a2, a3, a4, a5, a6, a7, a8, a9, a10, a11, a12, a13, o, v, h', u', c', q1, q2, hk⟩ := LM_without hG (xs (i + 1)) s.2.2.2.2.2.2.2.2.2.2.1 s.2.2.2.2.2.2.2.2.2.2.2.1 s.2.2.2.2.2.2.2.2.2.2.2.2.1 s.2.2.2.2.2.2.2.2.2.2.2.2.2.1 s.2.2.2.2.2.2.2.2.2.2.2.2.2.2.1 s.2.2.2.2.2.2.2.2.2.2.2.2.2.2.2.1 s.2.2.2.2.2.2.2.2.2.2.2.2.2.2.2.2.1 s.2.2.2.2.2.2.2.2.2.2.2.2.2.2.2.2.2.2.2.2.1 s.2.2.2.2.2.2.2.2.2.2.2.2.2.2.2.2.2.2.2.2.2.1 s.2.2.2.2.2.2.2.2.2.2.2.2.2.2.2.2.2.2.2.2.2.2.1 s.2.2.2.2.2.2.2.2.2.2.2.2.2.2.2.2.2.2.2.2.2.2.2.1 s.2.2.2.2.2.2.2.2.2.2.2.2.2.2.2.2.2.2.2.2.2.2.2.2.1 s.2.2.2.2.2.2.2.2.2.2.2.2.2.2.2.2.2.2.2.2.2.2.2.2.2.1 s.2.2.2.2.2.2.2.2.2.2.2.2.2.2.2.2.2.2.2.2.2.2.2.2.2.2.1 s.2.2.2.2.2.2.2.2.2.2.2.2.2.2.2.2.2.2.2.2.2.2.2.2.2.2.2.2.2.2.2.2.2.2.2.2.2.2.2.2.2.2.2.2.2.2.2.2.2.1 s.2.2.2.2.2.2.2.2.2.2.2.2.2.2.2.2.2.2.2.2.2.2.2.2.2.2.2.2.2.2.2.2.2.2.2.2.2.2.2.2.2.1 s.2.2.2.2.2.2.2.2.2.2.2.2.2.2.2.2.2.2.2.2.2.2.2.2.2.2.2.2.2.2.2.2.2.2.2.2.2.2.2.2.2.2.1 s.2.2.2.2.2.2.2.2.2.2.2.2.2.2.2.2.2.2.2.2.2.2.2.2.2.2.2.2.2.2.2.2.2.2.2.2.2.2.2.2.2.2.2.1
  rw [bd_s q1]
  try simp only []
  rw [bd_s q2]
  try simp only []
  rw [bd_s (show f_X8_thrown k = some k from rfl), if_pos rfl]
  by_cases h0 : k = 0
  · rw [if_pos h0, hk h0, lgc, if_pos rfl]
    exact hK _ ⟨n, pl, hf, pw, gl, th, sc, ta, re, hG, rfl, rfl, rfl, rfl, rfl, rfl, rfl, rfl, rfl, rfl, rfl, rfl, rfl, rfl, rfl, rfl, rfl, rfl, rfl⟩
  · rw [if_neg h0]
    exact hK _ ⟨n, pl, hf, pw, gl, th, sc, ta, re, hG, rfl, rfl, rfl, rfl, rfl, rfl, rfl, rfl, rfl, rfl, rfl, rfl, rfl, rfl, rfl, rfl, rfl, rfl, rfl⟩
set_option maxRecDepth 100000 in
set_option maxHeartbeats 4000000 in
theorem law_p24 {n : Nat} {pl hf pw gl : Nat → Int32} {th sc ta re : Int32} (hG : Gd n pl hf pw gl th sc ta) {xs : Nat → Int32} {L i : Nat} (hi : i + 5 ≤ L) (hL : L ≤ 2560) {s : LawS} (hs : Eqs n pl hf pw gl th sc ta re i s) {K : LawS → Option Int32} (hK : ∀ s2, Inv (i + 5) s2 → K s2 = some 1) : f_law_c24 xs L s K = some 1 := by
  obtain ⟨e0, e1, e2, e3, e4, e5, e6, e7, e8, e9, e36, e37, e38, e39, e40, e45, e46, e47, e48⟩ := hs
  unfold f_law_c24
  simp only [e0, e1, e2, e3, e4, e5, e6, e7, e8, e9, e36, e37, e38, e39, e40, e45, e46, e47, e48, show ii i + (5 : Int32) = ii (i + 5) from ii_a i 5]
  obtain ⟨v, z, h', u', c', s', q1, q2⟩ := LM_digest (re := re) hG s.2.2.2.2.2.2.2.2.2.2.1 s.2.2.2.2.2.2.2.2.2.2.2.1 s.2.2.2.2.2.2.2.2.2.2.2.2.1 s.2.2.2.2.2.2.2.2.2.2.2.2.2.1 s.2.2.2.2.2.2.2.2.2.2.2.2.2.2.1 s.2.2.2.2.2.2.2.2.2.2.2.2.2.2.2.1 s.2.2.2.2.2.2.2.2.2.2.2.2.2.2.2.2.1 s.2.2.2.2.2.2.2.2.2.2.2.2.2.2.2.2.2.1 s.2.2.2.2.2.2.2.2.2.2.2.2.2.2.2.2.2.2.1 s.2.2.2.2.2.2.2.2.2.2.2.2.2.2.2.2.2.2.2.1 s.2.2.2.2.2.2.2.2.2.2.2.2.2.2.2.2.2.2.2.2.1 s.2.2.2.2.2.2.2.2.2.2.2.2.2.2.2.2.2.2.2.2.2.1 s.2.2.2.2.2.2.2.2.2.2.2.2.2.2.2.2.2.2.2.2.2.2.1 s.2.2.2.2.2.2.2.2.2.2.2.2.2.2.2.2.2.2.2.2.2.2.2.1 s.2.2.2.2.2.2.2.2.2.2.2.2.2.2.2.2.2.2.2.2.2.2.2.2.1 s.2.2.2.2.2.2.2.2.2.2.2.2.2.2.2.2.2.2.2.2.2.2.2.2.2.1 s.2.2.2.2.2.2.2.2.2.2.2.2.2.2.2.2.2.2.2.2.2.2.2.2.2.2.1 s.2.2.2.2.2.2.2.2.2.2.2.2.2.2.2.2.2.2.2.2.2.2.2.2.2.2.2.1 s.2.2.2.2.2.2.2.2.2.2.2.2.2.2.2.2.2.2.2.2.2.2.2.2.2.2.2.2.1 s.2.2.2.2.2.2.2.2.2.2.2.2.2.2.2.2.2.2.2.2.2.2.2.2.2.2.2.2.2.1 s.2.2.2.2.2.2.2.2.2.2.2.2.2.2.2.2.2.2.2.2.2.2.2.2.2.2.2.2.2.2.1 s.2.2.2.2.2.2.2.2.2.2.2.2.2.2.2.2.2.2.2.2.2.2.2.2.2.2.2.2.2.2.2.1 s.2.2.2.2.2.2.2.2.2.2.2.2.2.2.2.2.2.2.2.2.2.2.2.2.2.2.2.2.2.2.2.2.1 s.2.2.2.2.2.2.2.2.2.2.2.2.2.2.2.2.2.2.2.2.2.2.2.2.2.2.2.2.2.2.2.2.2.2.2.2.2.2.2.2.2.1 s.2.2.2.2.2.2.2.2.2.2.2.2.2.2.2.2.2.2.2.2.2.2.2.2.2.2.2.2.2.2.2.2.2.2.2.2.2.2.2.2.2.2.1 s.2.2.2.2.2.2.2.2.2.2.2.2.2.2.2.2.2.2.2.2.2.2.2.2.2.2.2.2.2.2.2.2.2.2.2.2.2.2.2.2.2.2.2.1
  rw [bd_s q1]
  try simp only []
  rw [bd_s q2]
  try simp only []
  rw [lgc]
  first
  | rw [if_pos rfl]
  | rw [if_pos True.intro]
  exact hK _ ⟨n, pl, hf, pw, gl, th, sc, ta, re, hG, rfl, rfl, rfl, rfl, rfl, rfl, rfl, rfl, rfl, rfl, rfl, rfl, rfl, rfl, rfl, rfl, rfl, rfl, rfl⟩
set_option maxRecDepth 100000 in
set_option maxHeartbeats 4000000 in
theorem law_lp {xs : Nat → Int32} {L : Nat} (hL : L ≤ 2560) : ∀ (fuel i : Nat) (s : LawS), Inv i s → i ≤ L → L + 5 ≤ i + 5 * fuel → lp (f_law_b1 xs L) fuel s = some 1 := by
  intro fuel
  induction fuel with
  | zero => intro i s _ h1 h2; omega
  | succ f ih =>
    intro i s hI h1 h2
    obtain ⟨n, pl, hf, pw, gl, th, sc, ta, re, hG, hs⟩ := hI
    have e0 := hs.1
    have ihK := fun s2 (h : Inv (i + 5) s2) (hi : i + 5 ≤ L) => ih (i + 5) s2 h hi (by omega)
    rw [lp_st]
    generalize lp (f_law_b1 xs L) f = K at ihK ⊢
    unfold f_law_b1
    rw [e0]
    have hsub : (Int32.ofNat L - (5 : Int32)).toInt = (L : Int) - 5 := by
      rw [Int32.toInt_sub, show (Int32.ofNat L).toInt = (L : Int) from ii_int (by omega)]
      show ((L : Int) - 5).bmod _ = _
      exact Int.bmod_eq_of_le (by omega) (by omega)
    by_cases h3 : Int32.ofNat L - (5 : Int32) < ii i
    · rw [if_pos h3]
    · rw [if_neg h3]
      have hi : i + 5 ≤ L := by
        rw [iL, hsub, ii_int (by omega)] at h3
        omega
      have hK : ∀ s2, Inv (i + 5) s2 → K s2 = some 1 := fun s2 h => ihK s2 h hi
      rw [gd_t (vin_ii (show i < L by omega) (by omega))]
      generalize (xs (ii i).toNatClampNeg) &&& (31 : Int32) = cc
      by_cases q0 : cc = (0 : Int32)
      · rw [if_pos q0]; exact law_p0 hG hi hL hs hK
      rw [if_neg q0]
      by_cases q1 : cc = (1 : Int32)
      · rw [if_pos q1]; exact law_p1 hG hi hL hs hK
      rw [if_neg q1]
      by_cases q2 : cc = (2 : Int32)
      · rw [if_pos q2]; exact law_p2 hG hi hL hs hK
      rw [if_neg q2]
      by_cases q3 : cc = (3 : Int32)
      · rw [if_pos q3]; exact law_p3 hG hi hL hs hK
      rw [if_neg q3]
      by_cases q4 : cc = (4 : Int32)
      · rw [if_pos q4]; exact law_p4 hG hi hL hs hK
      rw [if_neg q4]
      by_cases q5 : cc = (5 : Int32)
      · rw [if_pos q5]; exact law_p5 hG hi hL hs hK
      rw [if_neg q5]
      by_cases q6 : cc = (6 : Int32)
      · rw [if_pos q6]; exact law_p6 hG hi hL hs hK
      rw [if_neg q6]
      by_cases q7 : cc = (7 : Int32)
      · rw [if_pos q7]; exact law_p7 hG hi hL hs hK
      rw [if_neg q7]
      by_cases q8 : cc = (8 : Int32)
      · rw [if_pos q8]; exact law_p8 hG hi hL hs hK
      rw [if_neg q8]
      by_cases q9 : cc = (9 : Int32)
      · rw [if_pos q9]; exact law_p9 hG hi hL hs hK
      rw [if_neg q9]
      by_cases q10 : cc = (10 : Int32)
      · rw [if_pos q10]; exact law_p10 hG hi hL hs hK
      rw [if_neg q10]
      by_cases q11 : cc = (11 : Int32)
      · rw [if_pos q11]; exact law_p11 hG hi hL hs hK
      rw [if_neg q11]
      by_cases q12 : cc = (12 : Int32)
      · rw [if_pos q12]; exact law_p12 hG hi hL hs hK
      rw [if_neg q12]
      by_cases q13 : cc = (13 : Int32)
      · rw [if_pos q13]; exact law_p13 hG hi hL hs hK
      rw [if_neg q13]
      by_cases q14 : cc = (14 : Int32)
      · rw [if_pos q14]; exact law_p14 hG hi hL hs hK
      rw [if_neg q14]
      by_cases q15 : cc = (15 : Int32)
      · rw [if_pos q15]; exact law_p15 hG hi hL hs hK
      rw [if_neg q15]
      by_cases q16 : cc = (16 : Int32)
      · rw [if_pos q16]; exact law_p16 hG hi hL hs hK
      rw [if_neg q16]
      by_cases q17 : cc = (17 : Int32)
      · rw [if_pos q17]; exact law_p17 hG hi hL hs hK
      rw [if_neg q17]
      by_cases q18 : cc = (18 : Int32)
      · rw [if_pos q18]; exact law_p18 hG hi hL hs hK
      rw [if_neg q18]
      by_cases q19 : cc = (19 : Int32)
      · rw [if_pos q19]; exact law_p19 hG hi hL hs hK
      rw [if_neg q19]
      by_cases q20 : cc = (20 : Int32)
      · rw [if_pos q20]; exact law_p20 hG hi hL hs hK
      rw [if_neg q20]
      by_cases q21 : cc = (21 : Int32)
      · rw [if_pos q21]; exact law_p21 hG hi hL hs hK
      rw [if_neg q21]
      by_cases q22 : cc = (22 : Int32)
      · rw [if_pos q22]; exact law_p22 hG hi hL hs hK
      rw [if_neg q22]
      by_cases q23 : cc = (23 : Int32)
      · rw [if_pos q23]; exact law_p23 hG hi hL hs hK
      rw [if_neg q23]
      by_cases q24 : cc = (24 : Int32)
      · rw [if_pos q24]; exact law_p24 hG hi hL hs hK
      rw [if_neg q24]
      obtain ⟨e0, e1, e2, e3, e4, e5, e6, e7, e8, e9, e36, e37, e38, e39, e40, e45, e46, e47, e48⟩ := hs
      exact hK _ ⟨n, pl, hf, pw, gl, th, sc, ta, re, hG, ii_a i 5, e1, e2, e3, e4, e5, e6, e7, e8, e9, e36, e37, e38, e39, e40, e45, e46, e47, e48⟩
theorem law_pure (xs : Nat → Int32) (L : Nat) (hL : L ≤ 2560) : lp (f_law_b1 xs L) 513 law_s0 = some 1 := by
  refine law_lp hL 513 0 law_s0 ⟨0, fun _ => 0, fun _ => 0, fun _ => 0, fun _ => 0, 0, 99, 4, 0, ⟨by omega, fun i hi => absurd hi (Nat.not_lt_zero _), fun i j hi => absurd hi (Nat.not_lt_zero _), fun i hi => absurd hi (Nat.not_lt_zero _), fun i hi => absurd hi (Nat.not_lt_zero _), by decide, by decide, by decide, by decide, by decide⟩, rfl, rfl, rfl, rfl, rfl, rfl, rfl, rfl, rfl, rfl, rfl, rfl, rfl, rfl, rfl, rfl, rfl, rfl, rfl⟩ (by omega) (by omega)
end PureLaw
