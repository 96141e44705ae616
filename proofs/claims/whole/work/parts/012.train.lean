/-! PURE TRAIN: the class's own line of pieces. -/
section PureTrain
def mv {α : Type} (A : Nat → α) (at_ sz : Nat) : Nat → α := fun j => if at_ < j ∧ j ≤ sz then A (j - 1) else A j
theorem mv_self {α : Type} (A : Nat → α) (sz : Nat) : mv A sz sz = A := by
  funext j
  unfold mv
  exact if_neg (by omega)
theorem mv_step {α : Type} {A : Nat → α} {a sz : Nat} (h1 : 1 ≤ a) (h2 : a ≤ sz) : (fun j => if j = a then mv A a sz (a - 1) else mv A a sz j) = mv A (a - 1) sz := by
  funext j
  unfold mv
  rw [if_neg (show ¬ (a < a - 1 ∧ a - 1 ≤ sz) by omega)]
  by_cases h : j = a
  · subst h
    rw [if_pos rfl, if_pos (by omega)]
  · rw [if_neg h]
    by_cases h3 : a < j ∧ j ≤ sz
    · rw [if_pos h3, if_pos (by omega)]
    · rw [if_neg h3, if_neg (by omega)]
theorem mv_at {α : Type} {A : Nat → α} {a sz : Nat} (h1 : 1 ≤ a) : mv A a sz (a - 1) = A (a - 1) := by
  unfold mv
  exact if_neg (by omega)
theorem join_lp {i place half : Int32} {bend : UInt64} {sz : Nat} {N P H : Nat → Int32} {B : Nat → UInt64} (hsz : sz < 8) : ∀ (at_ : Nat), at_ ≤ sz → ∀ fuel, at_ < fuel → ∃ a, a ≤ at_ ∧ (a = 0 ∨ (P (a - 1)).toInt ≤ place.toInt) ∧ (∀ j, a ≤ j → j < at_ → place.toInt < (P j).toInt) ∧
    lp (f_X5_join_b1 i place half bend (ii sz)) fuel (ii at_, mv N at_ sz, mv P at_ sz, mv H at_ sz, mv B at_ sz) = some (ii (sz + 1), upd (mv N a sz) a i, upd (mv P a sz) a place, upd (mv H a sz) a half, vf_upd (mv B a sz) a bend) := by
  intro at_
  induction at_ with
  | zero =>
    intro _ fuel hf
    obtain ⟨f, rfl⟩ := Nat.exists_eq_succ_of_ne_zero (show fuel ≠ 0 by omega)
    refine ⟨0, Nat.le_refl _, Or.inl rfl, fun j _ h => absurd h (Nat.not_lt_zero _), ?_⟩
    show f_X5_join_b1 _ _ _ _ _ _ _ = _
    unfold f_X5_join_b1
    have hv : vin (ii 0) 8 = true := by decide
    simp only [gd_t hv, ii_s]
    exact if_pos (by decide)
  | succ at_ ih =>
    intro hle fuel hf
    obtain ⟨f, rfl⟩ := Nat.exists_eq_succ_of_ne_zero (show fuel ≠ 0 by omega)
    have hv : vin (ii (at_ + 1)) 8 = true := vin_ii (by omega) (by omega)
    have hp : ii (at_ + 1) - 1 = ii at_ := ii_p (by omega)
    have hv2 : vin (ii at_) 8 = true := vin_ii (by omega) (by omega)
    have key : ∀ R, f_X5_join_b1 i place half bend (ii sz) (ii (at_ + 1), mv N (at_ + 1) sz, mv P (at_ + 1) sz, mv H (at_ + 1) sz, mv B (at_ + 1) sz) (lp (f_X5_join_b1 i place half bend (ii sz)) f) = R ↔ (if P at_ ≤ place then some (ii (sz + 1), upd (mv N (at_ + 1) sz) (at_ + 1) i, upd (mv P (at_ + 1) sz) (at_ + 1) place, upd (mv H (at_ + 1) sz) (at_ + 1) half, vf_upd (mv B (at_ + 1) sz) (at_ + 1) bend) else lp (f_X5_join_b1 i place half bend (ii sz)) f (ii at_, mv N at_ sz, mv P at_ sz, mv H at_ sz, mv B at_ sz)) = R := by
      intro R
      unfold f_X5_join_b1
      simp only [gd_t hv, gd_t hv2, hp, ii_cl (show at_ + 1 < 100000 by omega), ii_cl (show at_ < 100000 by omega), ii_s, ii_m (show 1 ≤ at_ + 1 by omega), Nat.add_sub_cancel]
      rw [if_neg (show ¬ ii (at_ + 1) ≤ 0 from fun h => absurd ((ii_le (a := at_ + 1) (b := 0) (by omega) (by omega)).mp h) (by omega))]
      have e0 : ∀ {α : Type} (A : Nat → α), mv A (at_ + 1) sz at_ = A at_ := fun A => mv_at (a := at_ + 1) (by omega)
      have e1 : ∀ A : Nat → Int32, upd (mv A (at_ + 1) sz) (at_ + 1) (A at_) = mv A at_ sz := fun A => by
        have h := mv_step (A := A) (a := at_ + 1) (sz := sz) (by omega) hle
        rw [mv_at (by omega)] at h
        exact h
      have e2 : vf_upd (mv B (at_ + 1) sz) (at_ + 1) (B at_) = mv B at_ sz := by
        have h := mv_step (A := B) (a := at_ + 1) (sz := sz) (by omega) hle
        rw [mv_at (by omega)] at h
        exact h
      rw [e0 P, e0 N, e0 H, e0 B, e1 N, e1 P, e1 H, e2]
    by_cases c : P at_ ≤ place
    · refine ⟨at_ + 1, Nat.le_refl _, Or.inr ?_, fun j h1 h2 => absurd h2 (by omega), ?_⟩
      · rw [Nat.add_sub_cancel]; exact Int32.le_iff_toInt_le.mp c
      · refine (key _).mpr ?_
        rw [if_pos c]
    · obtain ⟨a, h1, h2, h3, h4⟩ := ih (by omega) f (by omega)
      refine ⟨a, by omega, h2, fun j h5 h6 => ?_, ?_⟩
      · rcases Nat.lt_succ_iff_lt_or_eq.mp h6 with h7 | h7
        · exact h3 j h5 h7
        · subst h7
          rw [Int32.le_iff_toInt_le] at c
          omega
      · refine (key _).mpr ?_
        rw [if_neg c]
        exact h4
/-- the arrays hold the train -/
def RI (q hf : Nat → Int32) (s : Nat → UInt64) (N P H : Nat → Int32) (B : Nat → UInt64) (L : List Nat) : Prop := ∀ k d, L[k]? = some d → N k = ii d ∧ P k = q d ∧ H k = hf d ∧ B k = s d
theorem ins_get {L : List Nat} {a i k d : Nat} (ha : a ≤ L.length) (h : (L.take a ++ i :: L.drop a)[k]? = some d) : (k < a ∧ L[k]? = some d) ∨ (k = a ∧ d = i) ∨ (a < k ∧ k ≤ L.length ∧ L[k - 1]? = some d) := by
  have hl : (L.take a).length = a := by rw [List.length_take]; omega
  rcases Nat.lt_trichotomy k a with h1 | h1 | h1
  · rw [List.getElem?_append_left (by omega), List.getElem?_take_of_lt h1] at h
    exact Or.inl ⟨h1, h⟩
  · rw [List.getElem?_append_right (by omega), hl, h1, Nat.sub_self, List.getElem?_cons_zero] at h
    exact Or.inr (Or.inl ⟨h1, (Option.some.inj h).symm⟩)
  · rw [List.getElem?_append_right (by omega), hl, show k - a = (k - a - 1) + 1 by omega, List.getElem?_cons_succ, List.getElem?_drop, show a + (k - a - 1) = k - 1 by omega] at h
    have h2 := (List.getElem?_eq_some_iff.mp h).1
    exact Or.inr (Or.inr ⟨h1, by omega, h⟩)
theorem RI.ins {q hf : Nat → Int32} {s : Nat → UInt64} {N P H : Nat → Int32} {B : Nat → UInt64} {L : List Nat} (h : RI q hf s N P H B L) {a i : Nat} (ha : a ≤ L.length) : RI q hf s (upd (mv N a L.length) a (ii i)) (upd (mv P a L.length) a (q i)) (upd (mv H a L.length) a (hf i)) (vf_upd (mv B a L.length) a (s i)) (L.take a ++ i :: L.drop a) := by
  intro k d hk
  unfold upd vf_upd mv
  rcases ins_get ha hk with ⟨h1, h2⟩ | ⟨h1, h2⟩ | ⟨h1, h3, h2⟩
  · simp only [if_neg (show ¬ k = a by omega), if_neg (show ¬ (a < k ∧ k ≤ L.length) by omega)]
    exact h k d h2
  · subst h2
    simp only [if_pos h1]
    exact ⟨trivial, trivial, trivial, trivial⟩
  · simp only [if_neg (show ¬ k = a by omega), if_pos (show a < k ∧ k ≤ L.length from ⟨h1, h3⟩)]
    exact h (k - 1) d h2
theorem Tr.out {i : Nat} {q : Nat → Int32} {lo hi : Int32} {L : List Nat} (h : Tr i q lo hi L) (ho : ¬ (lo.toInt < (q i).toInt ∧ (q i).toInt < hi.toInt)) : Tr (i + 1) q lo hi L := by
  refine ⟨h.1, fun j => ?_, Nat.le_succ_of_le h.2.2⟩
  rw [h.2.1 j]
  constructor
  · rintro ⟨h1, h2⟩; exact ⟨by omega, h2⟩
  · rintro ⟨h1, h2⟩
    rcases Nat.lt_succ_iff_lt_or_eq.mp h1 with h3 | h3
    · exact ⟨h3, h2⟩
    · subst h3; exact absurd h2 ho
theorem join_sp {i : Nat} {q hf : Nat → Int32} {s : Nat → UInt64} {lo hi : Int32} {L : List Nat} {N P H : Nat → Int32} {B : Nat → UInt64} (hi8 : i < 8) (hT : Tr i q lo hi L) (hR : RI q hf s N P H B L) (hd9 : ∀ j, j < i → (q j).toInt ≠ (q i).toInt) :
    ∃ L' N' P' H' B', f_X5_join (ii i) (q i) (hf i) (s i) (ii L.length) lo hi N P H B = some (ii L'.length, N', P', H', B') ∧ Tr (i + 1) q lo hi L' ∧ RI q hf s N' P' H' B' L' := by
  have hlen : L.length ≤ i := hT.2.2
  unfold f_X5_join
  by_cases c1 : q i ≤ lo
  · rw [if_pos c1]
    rw [Int32.le_iff_toInt_le] at c1
    exact ⟨L, N, P, H, B, rfl, hT.out (by omega), hR⟩
  · rw [if_neg c1]
    by_cases c2 : hi ≤ q i
    · rw [if_pos c2]
      rw [Int32.le_iff_toInt_le] at c2
      exact ⟨L, N, P, H, B, rfl, hT.out (by omega), hR⟩
    · rw [if_neg c2, if_pos (show ii L.length < (8 : Int32) from (ii_lt (b := 8) (by omega) (by omega)).mpr (by omega))]
      rw [Int32.le_iff_toInt_le] at c1 c2
      obtain ⟨a, h1, h2, h3, h4⟩ := join_lp (i := ii i) (place := q i) (half := hf i) (bend := s i) (N := N) (P := P) (H := H) (B := B) (show L.length < 8 by omega) L.length (Nat.le_refl _) 1000 (by omega)
      rw [mv_self, mv_self, mv_self, mv_self] at h4
      have hpw := List.pairwise_iff_getElem.mp hT.1
      have hlo : ∀ x ∈ L.take a, (q x).toInt < (q i).toInt := by
        intro x hx
        obtain ⟨k, hk⟩ := List.mem_iff_getElem?.mp hx
        have hk2 := (List.getElem?_eq_some_iff.mp hk).1
        rw [List.length_take] at hk2
        rw [List.getElem?_take_of_lt (by omega)] at hk
        have h2 := h2.resolve_left (by omega)
        have hx9 : x < i := ((hT.2.1 x).mp (List.mem_of_getElem? hk)).1
        have hne := hd9 x hx9
        have e := (hR k x hk).2.1
        rcases Nat.lt_or_ge k (a - 1) with h5 | h5
        · have h6 := hpw k (a - 1) (by omega) (by omega) h5
          have e2 := (hR (a - 1) (L[a - 1]'(by omega)) (List.getElem?_eq_getElem (by omega))).2.1
          have e3 : L[k]'(by omega) = x := by
            have := List.getElem?_eq_getElem (l := L) (i := k) (by omega)
            rw [this] at hk; exact Option.some.inj hk
          rw [e3] at h6
          rw [e2] at h2
          omega
        · have h6 : k = a - 1 := by omega
          subst h6
          rw [e] at h2
          omega
      have hhi : ∀ x ∈ L.drop a, (q i).toInt < (q x).toInt := by
        intro x hx
        obtain ⟨k, hk⟩ := List.mem_iff_getElem?.mp hx
        rw [List.getElem?_drop] at hk
        have hk2 := (List.getElem?_eq_some_iff.mp hk).1
        have := h3 (a + k) (by omega) hk2
        rw [(hR _ _ hk).2.1] at this
        exact this
      refine ⟨L.take a ++ i :: L.drop a, _, _, _, _, ?_, ⟨?_, ?_, ?_⟩, hR.ins h1⟩
      · rw [h4]
        congr 3
        rw [List.length_append, List.length_take, List.length_cons, List.length_drop]
        omega
      · rw [List.pairwise_append]
        refine ⟨hT.1.sublist (List.take_sublist _ _), ?_, ?_⟩
        · rw [List.pairwise_cons]
          exact ⟨hhi, hT.1.sublist (List.drop_sublist _ _)⟩
        · intro x hx y hy
          rcases List.mem_cons.mp hy with h5 | h5
          · subst h5; exact hlo x hx
          · have := hlo x hx
            have := hhi y h5
            omega
      · intro j
        rw [List.mem_append, List.mem_cons]
        constructor
        · rintro (h5 | h5 | h5)
          · have := (hT.2.1 j).mp (List.mem_of_mem_take h5); exact ⟨by omega, this.2⟩
          · subst h5; exact ⟨by omega, by omega, by omega⟩
          · have := (hT.2.1 j).mp (List.mem_of_mem_drop h5); exact ⟨by omega, this.2⟩
        · rintro ⟨h5, h6⟩
          rcases Nat.lt_succ_iff_lt_or_eq.mp h5 with h7 | h7
          · have h8 := (hT.2.1 j).mpr ⟨h7, h6⟩
            rw [← List.take_append_drop a L, List.mem_append] at h8
            rcases h8 with h8 | h8
            · exact Or.inl h8
            · exact Or.inr (Or.inr h8)
          · exact Or.inr (Or.inl h7)
      · rw [List.length_append, List.length_take, List.length_cons, List.length_drop]
        omega
/-- as if a piece p stood at a -/
def qi (pl : Nat → Int32) (p a : Int32) : Nat → Int32 := fun i => if ii i = p then a else pl i
theorem qi_no (pl : Nat → Int32) (a : Int32) {i : Nat} (hi : i < 100000) : qi pl (-1) a i = pl i := if_neg (ii_ne hi)
section LineUp
variable {n : Nat} {c p a th sc : Int32} {pl hf pw gl : Nat → Int32}
abbrev bs (pw gl : Nat → Int32) (c : Int32) : Nat → UInt64 := fun i => bv (pw i) (gl i) c
theorem line_lp (hn : n ≤ 8) (hpg : ∀ i, i < n → pg (pw i) (gl i)) (hc : co c) (hd9 : ∀ i j, i < n → j < n → i ≠ j → (qi pl p a i).toInt ≠ (qi pl p a j).toInt) (o : Int32) :
    ∀ (j k : Nat) (L : List Nat) (N P H : Nat → Int32) (B : Nat → UInt64), n = k + j → Tr k (qi pl p a) th sc L → RI (qi pl p a) hf (bs pw gl c) N P H B L → ∀ fuel, j < fuel →
    ∃ L' N' P' H' B', lp (f_X6_lineUpIf_b1 c p a (ii n) pl hf pw gl (o, th, sc)) fuel (ii k, ii L.length, N, P, H, B) = some (ii L'.length, th, sc, N', P', H', B') ∧ Tr n (qi pl p a) th sc L' ∧ RI (qi pl p a) hf (bs pw gl c) N' P' H' B' L' := by
  intro j
  induction j with
  | zero =>
    intro k L N P H B hk hT hR fuel hf9
    obtain ⟨f, rfl⟩ := Nat.exists_eq_succ_of_ne_zero (show fuel ≠ 0 by omega)
    refine ⟨L, N, P, H, B, ?_, by rw [hk]; exact hT, hR⟩
    show f_X6_lineUpIf_b1 _ _ _ _ _ _ _ _ _ _ _ = _
    unfold f_X6_lineUpIf_b1
    exact if_pos ((ii_le (by omega) (by omega)).mpr (by omega))
  | succ j ih =>
    intro k L N P H B hk hT hR fuel hf9
    obtain ⟨f, rfl⟩ := Nat.exists_eq_succ_of_ne_zero (show fuel ≠ 0 by omega)
    have hv : vin (ii k) 8 = true := vin_ii (by omega) (by omega)
    obtain ⟨L', N', P', H', B', h1, h2, h3⟩ := join_sp (hf := hf) (s := bs pw gl c) (by omega) hT hR (fun j hj => hd9 j k (by omega) (by omega) (by omega))
    have ih := ih (k + 1) L' N' P' H' B' (by omega) h2 h3 f (by omega)
    show ∃ L' N' P' H' B', f_X6_lineUpIf_b1 _ _ _ _ _ _ _ _ _ _ (lp (f_X6_lineUpIf_b1 c p a (ii n) pl hf pw gl (o, th, sc)) f) = _ ∧ _
    generalize lp (f_X6_lineUpIf_b1 c p a (ii n) pl hf pw gl (o, th, sc)) f = K at ih ⊢
    unfold f_X6_lineUpIf_b1
    simp only [gd_t hv, ii_cl (show k < 100000 by omega)]
    rw [if_neg (fun h => absurd ((ii_le (by omega) (by omega)).mp h) (by omega))]
    by_cases e : ii k = p
    · have e1 : qi pl p a k = a := if_pos e
      rw [e1] at h1
      rw [if_pos e, bd_s (bend6 (hpg k (by omega)) hc), bd_s h1, ii_s]
      exact ih
    · have e1 : qi pl p a k = pl k := if_neg e
      rw [e1] at h1
      rw [if_neg e, bd_s (bend6 (hpg k (by omega)) hc), bd_s h1, ii_s]
      exact ih
theorem lineIf_sp (hn : n ≤ 8) (hpg : ∀ i, i < n → pg (pw i) (gl i)) (hc : co c) (hd9 : ∀ i j, i < n → j < n → i ≠ j → (qi pl p a i).toInt ≠ (qi pl p a j).toInt) (N P H : Nat → Int32) (B : Nat → UInt64) :
    ∃ L' N' P' H' B', f_X6_lineUpIf c sc p a (ii n) th pl hf pw gl N P H B = some (ii L'.length, th, sc, N', P', H', B') ∧ Tr n (qi pl p a) th sc L' ∧ RI (qi pl p a) hf (bs pw gl c) N' P' H' B' L' := by
  have h := line_lp (th := th) (sc := sc) (hf := hf) hn hpg hc hd9 0 n 0 [] N P H B (by omega) ⟨List.Pairwise.nil, fun i => ⟨fun h => absurd h List.not_mem_nil, fun h => absurd h.1 (Nat.not_lt_zero _)⟩, Nat.le_refl _⟩ (fun k d h => by simp at h) 1000 (by omega)
  exact h
theorem Tr.congr {n : Nat} {q q' : Nat → Int32} {lo hi : Int32} {L : List Nat} (h : Tr n q lo hi L) (e : ∀ i, i < n → q' i = q i) : Tr n q' lo hi L := by
  refine ⟨?_, fun i => ?_, h.2.2⟩
  · refine List.Pairwise.imp_of_mem ?_ h.1
    intro x y hx hy hxy
    rw [e x ((h.2.1 x).mp hx).1, e y ((h.2.1 y).mp hy).1]
    exact hxy
  · rw [h.2.1 i]
    constructor
    · rintro ⟨h1, h2⟩; exact ⟨h1, by rw [e i h1]; exact h2⟩
    · rintro ⟨h1, h2⟩; exact ⟨h1, by rw [e i h1] at h2; exact h2⟩
theorem line_sp (hn : n ≤ 8) (hpg : ∀ i, i < n → pg (pw i) (gl i)) (hc : co c) (hd9 : ∀ i j, i < n → j < n → i ≠ j → (pl i).toInt ≠ (pl j).toInt) (N P H : Nat → Int32) (B : Nat → UInt64) :
    ∃ L' N' P' H' B', f_X6_lineUp c (ii n) th sc pl hf pw gl N P H B = some (ii L'.length, th, sc, N', P', H', B') ∧ Tr n pl th sc L' ∧ RI pl hf (bs pw gl c) N' P' H' B' L' := by
  obtain ⟨L', N', P', H', B', h1, h2, h3⟩ := lineIf_sp (p := (-1 : Int32)) (a := (-1 : Int32)) (th := th) (sc := sc) (pl := pl) (hf := hf) hn hpg hc (fun i j hi hj hij => by rw [qi_no _ _ (by omega), qi_no _ _ (by omega)]; exact hd9 i j hi hj hij) N P H B
  refine ⟨L', N', P', H', B', ?_, h2.congr (fun i hi => (qi_no _ _ (by omega)).symm), fun k d hk => ?_⟩
  · unfold f_X6_lineUp
    rw [bd_s h1]
  · obtain ⟨a1, a2, a3, a4⟩ := h3 k d hk
    have hd := ((h2.2.1 d).mp (List.mem_of_getElem? hk)).1
    rw [qi_no _ _ (by omega)] at a2
    exact ⟨a1, a2, a3, a4⟩
end LineUp
/-- .. from place k on -/
def Rp (q hf : Nat → Int32) (s : Nat → UInt64) (N P H : Nat → Int32) (B : Nat → UInt64) : Nat → List Nat → Prop
  | _, [] => True
  | k, d :: D => (N k = ii d ∧ P k = q d ∧ H k = hf d ∧ B k = s d) ∧ Rp q hf s N P H B (k + 1) D
theorem RI.rp {q hf : Nat → Int32} {s : Nat → UInt64} {N P H : Nat → Int32} {B : Nat → UInt64} {L : List Nat} (h : RI q hf s N P H B L) : Rp q hf s N P H B 0 L := by
  have key : ∀ (D : List Nat) (k : Nat), (∀ j d, D[j]? = some d → N (k + j) = ii d ∧ P (k + j) = q d ∧ H (k + j) = hf d ∧ B (k + j) = s d) → Rp q hf s N P H B k D := by
    intro D
    induction D with
    | nil => intro k _; exact True.intro
    | cons d D ih =>
      intro k h
      refine ⟨h 0 d rfl, ih (k + 1) (fun j e hj => ?_)⟩
      have := h (j + 1) e hj
      rw [show k + (j + 1) = k + 1 + j by omega] at this
      exact this
  exact key L 0 (fun j d hj => by rw [Nat.zero_add]; exact h j d hj)
end PureTrain
