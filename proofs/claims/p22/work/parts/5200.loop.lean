set_option maxHeartbeats 8000000 in
set_option maxRecDepth 100000 in
theorem law_loop {p : Program} {e : Env} {s : State} {m : MethodId} {below : List Frame} {meth : Method} {c : Code} {l : Launch} (hst : l.stackTraces = false) {b L : Nat} {xs : Nat → Int32} {D : va_G} {cI cD cB : ClassId} (C1 : LawC p s m meth c b L xs D (TT cI cD cB)) (a_x : Nat) (a_x_places : Nat) (a_x_halves : Nat) (a_x_powers : Nat) (a_x_glasses : Nat) (a_x_train : Nat) (a_x_single : Nat) (a_x_fan : Nat) (a_x_bending : Nat) (a_x_opening : Nat) (a_x_choice : Nat) (a_x_train_numbers : Nat) (a_x_train_places : Nat) (a_x_train_halves : Nat) (a_x_train_bends : Nat) (a_x_fan_ray : Nat) (a_x_fan_cuts : Nat) (a_m : Nat) (a_m_place : Nat) (a_m_half : Nat) (a_m_power : Nat) (a_m_glass : Nat) (a_o : Nat) : ∀ (n1 : Nat) (s1 : Int32 × Int32 × Int32 × Int32 × Int32 × Int32 × (Nat → Int32) × (Nat → Int32) × (Nat → Int32) × (Nat → Int32) × Int32 × Int32 × Int32 × (Nat → Int32) × (Nat → Int32) × (Nat → Int32) × (Nat → UInt64) × UInt64 × UInt64 × Int32 × Int32 × UInt64 × UInt64 × UInt64 × UInt64 × Int32 × (Nat → Int32) × UInt64 × UInt64 × UInt64 × UInt64 × Int32 × UInt64 × Int32 × UInt64 × Int32 × Int32 × Int32 × Int32 × Int32 × Int32 × UInt64 × UInt64 × Int32 × Int64 × (Nat → Int32) × (Nat → Int32) × (Nat → Int32) × (Nat → Int32) × Int64 × UInt64) (c0 d0 : Nat) (H : Heap) (locs : List Loc) (ls : Array Slot), c0 + 20 * n1 ≤ 771103 → d0 + 300 * n1 ≤ 6782796 → va_P D vwCl [(a_x, .inr (8, [.ref a_x_places, .ref a_x_halves, .ref a_x_powers, .ref a_x_glasses, .int s1.2.1, .int s1.2.2.1, .int s1.2.2.2.1, .int s1.2.2.2.2.1, .int s1.2.2.2.2.2.1, .ref a_x_train, .ref a_x_single, .ref a_x_fan, .ref a_x_bending, .ref a_x_opening, .ref a_x_choice])), (a_x_places, .inl (cI, 8, .inl s1.2.2.2.2.2.2.1)), (a_x_halves, .inl (cI, 8, .inl s1.2.2.2.2.2.2.2.1)), (a_x_powers, .inl (cI, 8, .inl s1.2.2.2.2.2.2.2.2.1)), (a_x_glasses, .inl (cI, 8, .inl s1.2.2.2.2.2.2.2.2.2.1)), (a_x_train, .inr (7, [.ref a_x_train_numbers, .ref a_x_train_places, .ref a_x_train_halves, .ref a_x_train_bends, .int s1.2.2.2.2.2.2.2.2.2.2.1, .int s1.2.2.2.2.2.2.2.2.2.2.2.1, .int s1.2.2.2.2.2.2.2.2.2.2.2.2.1])), (a_x_train_numbers, .inl (cI, 8, .inl s1.2.2.2.2.2.2.2.2.2.2.2.2.2.1)), (a_x_train_places, .inl (cI, 8, .inl s1.2.2.2.2.2.2.2.2.2.2.2.2.2.2.1)), (a_x_train_halves, .inl (cI, 8, .inl s1.2.2.2.2.2.2.2.2.2.2.2.2.2.2.2.1)), (a_x_train_bends, .inl (cD, 8, .inr (.inr (.inr (.inl s1.2.2.2.2.2.2.2.2.2.2.2.2.2.2.2.2.1))))), (a_x_single, .inr (5, [.double s1.2.2.2.2.2.2.2.2.2.2.2.2.2.2.2.2.2.1, .double s1.2.2.2.2.2.2.2.2.2.2.2.2.2.2.2.2.2.2.1, .int s1.2.2.2.2.2.2.2.2.2.2.2.2.2.2.2.2.2.2.2.1])), (a_x_fan, .inr (3, [.ref a_x_fan_ray, .ref a_x_fan_cuts, .int s1.2.2.2.2.2.2.2.2.2.2.2.2.2.2.2.2.2.2.2.2.1, .double s1.2.2.2.2.2.2.2.2.2.2.2.2.2.2.2.2.2.2.2.2.2.1, .double s1.2.2.2.2.2.2.2.2.2.2.2.2.2.2.2.2.2.2.2.2.2.2.1])), (a_x_fan_ray, .inr (5, [.double s1.2.2.2.2.2.2.2.2.2.2.2.2.2.2.2.2.2.2.2.2.2.2.2.1, .double s1.2.2.2.2.2.2.2.2.2.2.2.2.2.2.2.2.2.2.2.2.2.2.2.2.1, .int s1.2.2.2.2.2.2.2.2.2.2.2.2.2.2.2.2.2.2.2.2.2.2.2.2.2.1])), (a_x_fan_cuts, .inl (cI, 8, .inl s1.2.2.2.2.2.2.2.2.2.2.2.2.2.2.2.2.2.2.2.2.2.2.2.2.2.2.1)), (a_x_bending, .inr (6, [.double s1.2.2.2.2.2.2.2.2.2.2.2.2.2.2.2.2.2.2.2.2.2.2.2.2.2.2.2.1, .double s1.2.2.2.2.2.2.2.2.2.2.2.2.2.2.2.2.2.2.2.2.2.2.2.2.2.2.2.2.1, .double s1.2.2.2.2.2.2.2.2.2.2.2.2.2.2.2.2.2.2.2.2.2.2.2.2.2.2.2.2.2.1, .double s1.2.2.2.2.2.2.2.2.2.2.2.2.2.2.2.2.2.2.2.2.2.2.2.2.2.2.2.2.2.2.1])), (a_x_opening, .inr (4, [.int s1.2.2.2.2.2.2.2.2.2.2.2.2.2.2.2.2.2.2.2.2.2.2.2.2.2.2.2.2.2.2.2.1, .double s1.2.2.2.2.2.2.2.2.2.2.2.2.2.2.2.2.2.2.2.2.2.2.2.2.2.2.2.2.2.2.2.2.1])), (a_x_choice, .inr (2, [.int s1.2.2.2.2.2.2.2.2.2.2.2.2.2.2.2.2.2.2.2.2.2.2.2.2.2.2.2.2.2.2.2.2.2.1, .double s1.2.2.2.2.2.2.2.2.2.2.2.2.2.2.2.2.2.2.2.2.2.2.2.2.2.2.2.2.2.2.2.2.2.2.1])), (a_m, .inr (10, [.int s1.2.2.2.2.2.2.2.2.2.2.2.2.2.2.2.2.2.2.2.2.2.2.2.2.2.2.2.2.2.2.2.2.2.2.2.1, .int s1.2.2.2.2.2.2.2.2.2.2.2.2.2.2.2.2.2.2.2.2.2.2.2.2.2.2.2.2.2.2.2.2.2.2.2.2.1, .ref a_m_place, .ref a_m_half, .ref a_m_power, .ref a_m_glass, .int s1.2.2.2.2.2.2.2.2.2.2.2.2.2.2.2.2.2.2.2.2.2.2.2.2.2.2.2.2.2.2.2.2.2.2.2.2.2.1, .int s1.2.2.2.2.2.2.2.2.2.2.2.2.2.2.2.2.2.2.2.2.2.2.2.2.2.2.2.2.2.2.2.2.2.2.2.2.2.2.1, .int s1.2.2.2.2.2.2.2.2.2.2.2.2.2.2.2.2.2.2.2.2.2.2.2.2.2.2.2.2.2.2.2.2.2.2.2.2.2.2.2.1, .int s1.2.2.2.2.2.2.2.2.2.2.2.2.2.2.2.2.2.2.2.2.2.2.2.2.2.2.2.2.2.2.2.2.2.2.2.2.2.2.2.2.1, .double s1.2.2.2.2.2.2.2.2.2.2.2.2.2.2.2.2.2.2.2.2.2.2.2.2.2.2.2.2.2.2.2.2.2.2.2.2.2.2.2.2.2.1, .double s1.2.2.2.2.2.2.2.2.2.2.2.2.2.2.2.2.2.2.2.2.2.2.2.2.2.2.2.2.2.2.2.2.2.2.2.2.2.2.2.2.2.2.1, .int s1.2.2.2.2.2.2.2.2.2.2.2.2.2.2.2.2.2.2.2.2.2.2.2.2.2.2.2.2.2.2.2.2.2.2.2.2.2.2.2.2.2.2.2.1, .long s1.2.2.2.2.2.2.2.2.2.2.2.2.2.2.2.2.2.2.2.2.2.2.2.2.2.2.2.2.2.2.2.2.2.2.2.2.2.2.2.2.2.2.2.2.1])), (a_m_place, .inl (cI, 8, .inl s1.2.2.2.2.2.2.2.2.2.2.2.2.2.2.2.2.2.2.2.2.2.2.2.2.2.2.2.2.2.2.2.2.2.2.2.2.2.2.2.2.2.2.2.2.2.1)), (a_m_half, .inl (cI, 8, .inl s1.2.2.2.2.2.2.2.2.2.2.2.2.2.2.2.2.2.2.2.2.2.2.2.2.2.2.2.2.2.2.2.2.2.2.2.2.2.2.2.2.2.2.2.2.2.2.1)), (a_m_power, .inl (cI, 8, .inl s1.2.2.2.2.2.2.2.2.2.2.2.2.2.2.2.2.2.2.2.2.2.2.2.2.2.2.2.2.2.2.2.2.2.2.2.2.2.2.2.2.2.2.2.2.2.2.2.1)), (a_m_glass, .inl (cI, 8, .inl s1.2.2.2.2.2.2.2.2.2.2.2.2.2.2.2.2.2.2.2.2.2.2.2.2.2.2.2.2.2.2.2.2.2.2.2.2.2.2.2.2.2.2.2.2.2.2.2.2.1)), (a_o, .inr (9, [.long s1.2.2.2.2.2.2.2.2.2.2.2.2.2.2.2.2.2.2.2.2.2.2.2.2.2.2.2.2.2.2.2.2.2.2.2.2.2.2.2.2.2.2.2.2.2.2.2.2.2.1, .double s1.2.2.2.2.2.2.2.2.2.2.2.2.2.2.2.2.2.2.2.2.2.2.2.2.2.2.2.2.2.2.2.2.2.2.2.2.2.2.2.2.2.2.2.2.2.2.2.2.2.2]))] H → va_D (fun q : Nat => s.heap.size ≤ q) [(a_x, .inr (8, [.ref a_x_places, .ref a_x_halves, .ref a_x_powers, .ref a_x_glasses, .int s1.2.1, .int s1.2.2.1, .int s1.2.2.2.1, .int s1.2.2.2.2.1, .int s1.2.2.2.2.2.1, .ref a_x_train, .ref a_x_single, .ref a_x_fan, .ref a_x_bending, .ref a_x_opening, .ref a_x_choice])), (a_x_places, .inl (cI, 8, .inl s1.2.2.2.2.2.2.1)), (a_x_halves, .inl (cI, 8, .inl s1.2.2.2.2.2.2.2.1)), (a_x_powers, .inl (cI, 8, .inl s1.2.2.2.2.2.2.2.2.1)), (a_x_glasses, .inl (cI, 8, .inl s1.2.2.2.2.2.2.2.2.2.1)), (a_x_train, .inr (7, [.ref a_x_train_numbers, .ref a_x_train_places, .ref a_x_train_halves, .ref a_x_train_bends, .int s1.2.2.2.2.2.2.2.2.2.2.1, .int s1.2.2.2.2.2.2.2.2.2.2.2.1, .int s1.2.2.2.2.2.2.2.2.2.2.2.2.1])), (a_x_train_numbers, .inl (cI, 8, .inl s1.2.2.2.2.2.2.2.2.2.2.2.2.2.1)), (a_x_train_places, .inl (cI, 8, .inl s1.2.2.2.2.2.2.2.2.2.2.2.2.2.2.1)), (a_x_train_halves, .inl (cI, 8, .inl s1.2.2.2.2.2.2.2.2.2.2.2.2.2.2.2.1)), (a_x_train_bends, .inl (cD, 8, .inr (.inr (.inr (.inl s1.2.2.2.2.2.2.2.2.2.2.2.2.2.2.2.2.1))))), (a_x_single, .inr (5, [.double s1.2.2.2.2.2.2.2.2.2.2.2.2.2.2.2.2.2.1, .double s1.2.2.2.2.2.2.2.2.2.2.2.2.2.2.2.2.2.2.1, .int s1.2.2.2.2.2.2.2.2.2.2.2.2.2.2.2.2.2.2.2.1])), (a_x_fan, .inr (3, [.ref a_x_fan_ray, .ref a_x_fan_cuts, .int s1.2.2.2.2.2.2.2.2.2.2.2.2.2.2.2.2.2.2.2.2.1, .double s1.2.2.2.2.2.2.2.2.2.2.2.2.2.2.2.2.2.2.2.2.2.1, .double s1.2.2.2.2.2.2.2.2.2.2.2.2.2.2.2.2.2.2.2.2.2.2.1])), (a_x_fan_ray, .inr (5, [.double s1.2.2.2.2.2.2.2.2.2.2.2.2.2.2.2.2.2.2.2.2.2.2.2.1, .double s1.2.2.2.2.2.2.2.2.2.2.2.2.2.2.2.2.2.2.2.2.2.2.2.2.1, .int s1.2.2.2.2.2.2.2.2.2.2.2.2.2.2.2.2.2.2.2.2.2.2.2.2.2.1])), (a_x_fan_cuts, .inl (cI, 8, .inl s1.2.2.2.2.2.2.2.2.2.2.2.2.2.2.2.2.2.2.2.2.2.2.2.2.2.2.1)), (a_x_bending, .inr (6, [.double s1.2.2.2.2.2.2.2.2.2.2.2.2.2.2.2.2.2.2.2.2.2.2.2.2.2.2.2.1, .double s1.2.2.2.2.2.2.2.2.2.2.2.2.2.2.2.2.2.2.2.2.2.2.2.2.2.2.2.2.1, .double s1.2.2.2.2.2.2.2.2.2.2.2.2.2.2.2.2.2.2.2.2.2.2.2.2.2.2.2.2.2.1, .double s1.2.2.2.2.2.2.2.2.2.2.2.2.2.2.2.2.2.2.2.2.2.2.2.2.2.2.2.2.2.2.1])), (a_x_opening, .inr (4, [.int s1.2.2.2.2.2.2.2.2.2.2.2.2.2.2.2.2.2.2.2.2.2.2.2.2.2.2.2.2.2.2.2.1, .double s1.2.2.2.2.2.2.2.2.2.2.2.2.2.2.2.2.2.2.2.2.2.2.2.2.2.2.2.2.2.2.2.2.1])), (a_x_choice, .inr (2, [.int s1.2.2.2.2.2.2.2.2.2.2.2.2.2.2.2.2.2.2.2.2.2.2.2.2.2.2.2.2.2.2.2.2.2.1, .double s1.2.2.2.2.2.2.2.2.2.2.2.2.2.2.2.2.2.2.2.2.2.2.2.2.2.2.2.2.2.2.2.2.2.2.1])), (a_m, .inr (10, [.int s1.2.2.2.2.2.2.2.2.2.2.2.2.2.2.2.2.2.2.2.2.2.2.2.2.2.2.2.2.2.2.2.2.2.2.2.1, .int s1.2.2.2.2.2.2.2.2.2.2.2.2.2.2.2.2.2.2.2.2.2.2.2.2.2.2.2.2.2.2.2.2.2.2.2.2.1, .ref a_m_place, .ref a_m_half, .ref a_m_power, .ref a_m_glass, .int s1.2.2.2.2.2.2.2.2.2.2.2.2.2.2.2.2.2.2.2.2.2.2.2.2.2.2.2.2.2.2.2.2.2.2.2.2.2.1, .int s1.2.2.2.2.2.2.2.2.2.2.2.2.2.2.2.2.2.2.2.2.2.2.2.2.2.2.2.2.2.2.2.2.2.2.2.2.2.2.1, .int s1.2.2.2.2.2.2.2.2.2.2.2.2.2.2.2.2.2.2.2.2.2.2.2.2.2.2.2.2.2.2.2.2.2.2.2.2.2.2.2.1, .int s1.2.2.2.2.2.2.2.2.2.2.2.2.2.2.2.2.2.2.2.2.2.2.2.2.2.2.2.2.2.2.2.2.2.2.2.2.2.2.2.2.1, .double s1.2.2.2.2.2.2.2.2.2.2.2.2.2.2.2.2.2.2.2.2.2.2.2.2.2.2.2.2.2.2.2.2.2.2.2.2.2.2.2.2.2.1, .double s1.2.2.2.2.2.2.2.2.2.2.2.2.2.2.2.2.2.2.2.2.2.2.2.2.2.2.2.2.2.2.2.2.2.2.2.2.2.2.2.2.2.2.1, .int s1.2.2.2.2.2.2.2.2.2.2.2.2.2.2.2.2.2.2.2.2.2.2.2.2.2.2.2.2.2.2.2.2.2.2.2.2.2.2.2.2.2.2.2.1, .long s1.2.2.2.2.2.2.2.2.2.2.2.2.2.2.2.2.2.2.2.2.2.2.2.2.2.2.2.2.2.2.2.2.2.2.2.2.2.2.2.2.2.2.2.2.1])), (a_m_place, .inl (cI, 8, .inl s1.2.2.2.2.2.2.2.2.2.2.2.2.2.2.2.2.2.2.2.2.2.2.2.2.2.2.2.2.2.2.2.2.2.2.2.2.2.2.2.2.2.2.2.2.2.1)), (a_m_half, .inl (cI, 8, .inl s1.2.2.2.2.2.2.2.2.2.2.2.2.2.2.2.2.2.2.2.2.2.2.2.2.2.2.2.2.2.2.2.2.2.2.2.2.2.2.2.2.2.2.2.2.2.2.1)), (a_m_power, .inl (cI, 8, .inl s1.2.2.2.2.2.2.2.2.2.2.2.2.2.2.2.2.2.2.2.2.2.2.2.2.2.2.2.2.2.2.2.2.2.2.2.2.2.2.2.2.2.2.2.2.2.2.2.1)), (a_m_glass, .inl (cI, 8, .inl s1.2.2.2.2.2.2.2.2.2.2.2.2.2.2.2.2.2.2.2.2.2.2.2.2.2.2.2.2.2.2.2.2.2.2.2.2.2.2.2.2.2.2.2.2.2.2.2.2.1)), (a_o, .inr (9, [.long s1.2.2.2.2.2.2.2.2.2.2.2.2.2.2.2.2.2.2.2.2.2.2.2.2.2.2.2.2.2.2.2.2.2.2.2.2.2.2.2.2.2.2.2.2.2.2.2.2.2.1, .double s1.2.2.2.2.2.2.2.2.2.2.2.2.2.2.2.2.2.2.2.2.2.2.2.2.2.2.2.2.2.2.2.2.2.2.2.2.2.2.2.2.2.2.2.2.2.2.2.2.2.2]))] → va_S (fun q : Nat => s.heap.size ≤ q) s.heap H locs → lv_has ls 9 [(4, .int s1.1), (3, .ref a_o), (2, .ref a_m), (1, .ref a_x), (0, .ref b)] → lp (f_law_b1 xs L) n1 s1 = some 1 → W p l e room_1 s m #[Value.ref b] below meth c H locs c0 d0 (lw_Z below #[Value.ref b] s) (F0 m 27 ls []) := by
  obtain ⟨hx, hb, hr, hml, hown, hts, hX, hbl, hlocks, hNM, hZ, hK⟩ := id C1
  have hA : ∀ q : Nat, s.heap.size ≤ q → (fun q : Nat => s.heap.size ≤ q) q := fun _ h => h
  have hbA : ¬ (fun q : Nat => s.heap.size ≤ q) b := Nat.not_le.mpr hbl
  intro n1
  induction n1 with
  | zero => intro s1 c0 d0 H locs ls hc0 hd0 hP hD hS hl h; exact lp_0 h
  | succ n1 ih1 =>
    intro s1 c0 d0 H locs ls hc0 hd0 hP hD hS hl h
    replace h := lp_s h
    unfold f_law_b1 at h
    refine lv_iload hx hb dL_law_27 (lv_at hl 0 rfl) ?_
    refine lv_aload_n hx hb dL_law_29 rfl (lv_at hl 4 rfl) ?_
    refine va_slen hx hb hX hbl hbA hS dL_law_30 ?_
    refine lv_iconst (v := (5 : Int32)) hx hb dL_law_31 (by decide) ?_
    refine lv_isub hx hb dL_law_32 ?_
    refine lv_icmp_gt (tgt := 997) hx hb dL_law_33 (by decide) (fun q1 => ?_) (fun q1 => ?_)
    · replace h := ifp h q1
      refine lv_iconst (v := (1 : Int32)) hx hb dL_law_997 (by decide) ?_
      refine va_forget (fun q hq => hS.2.2 q hq) ?_
      refine W.widen (k := 771103) (n := 6782796) (by omega) (by omega) ?_
      exact lw_ret (Drawn.sameBut.refl s.drawn lw_cs) hx hb hr hlocks dL_law_998
    · replace h := ifn h q1
      refine lv_aload_n hx hb dL_law_36 rfl (lv_at hl 4 rfl) ?_
      refine lv_iload hx hb dL_law_37 (lv_at hl 0 rfl) ?_
      obtain ⟨g2, h⟩ := gd_e h
      refine va_sld hx hb hX hbl hbA hS (vin_in g2) dL_law_39 ?_
      refine lv_bipush (v := (31 : Int32)) hx hb dL_law_40 (by decide) ?_
      refine lv_iand hx hb dL_law_42 ?_
      by_cases q3 : ((xs (s1.1).toNatClampNeg) &&& (31 : Int32)) = (0 : Int32)
      · replace h := ifp h q3
        refine lv_tableIn (off := 113) (tgt := 156) hx hb dL_law_43 (by rw [q3]; decide) (by rw [q3]; decide) (by rw [q3]; rfl) (by decide) ?_
        exact law_c0 hst C1 a_x a_x_places a_x_halves a_x_powers a_x_glasses a_x_train a_x_single a_x_fan a_x_bending a_x_opening a_x_choice a_x_train_numbers a_x_train_places a_x_train_halves a_x_train_bends a_x_fan_ray a_x_fan_cuts a_m a_m_place a_m_half a_m_power a_m_glass a_o c0 d0 n1 hc0 hd0 s1 _ ih1 H locs ls hP hD hS hl h
      · replace h := ifn h q3
        by_cases q16 : ((xs (s1.1).toNatClampNeg) &&& (31 : Int32)) = (1 : Int32)
        · replace h := ifp h q16
          refine lv_tableIn (off := 177) (tgt := 220) hx hb dL_law_43 (by rw [q16]; decide) (by rw [q16]; decide) (by rw [q16]; rfl) (by decide) ?_
          exact law_c1 hst C1 a_x a_x_places a_x_halves a_x_powers a_x_glasses a_x_train a_x_single a_x_fan a_x_bending a_x_opening a_x_choice a_x_train_numbers a_x_train_places a_x_train_halves a_x_train_bends a_x_fan_ray a_x_fan_cuts a_m a_m_place a_m_half a_m_power a_m_glass a_o c0 d0 n1 hc0 hd0 s1 _ ih1 H locs ls hP hD hS hl h
        · replace h := ifn h q16
          by_cases q25 : ((xs (s1.1).toNatClampNeg) &&& (31 : Int32)) = (2 : Int32)
          · replace h := ifp h q25
            refine lv_tableIn (off := 217) (tgt := 260) hx hb dL_law_43 (by rw [q25]; decide) (by rw [q25]; decide) (by rw [q25]; rfl) (by decide) ?_
            exact law_c2 hst C1 a_x a_x_places a_x_halves a_x_powers a_x_glasses a_x_train a_x_single a_x_fan a_x_bending a_x_opening a_x_choice a_x_train_numbers a_x_train_places a_x_train_halves a_x_train_bends a_x_fan_ray a_x_fan_cuts a_m a_m_place a_m_half a_m_power a_m_glass a_o c0 d0 n1 hc0 hd0 s1 _ ih1 H locs ls hP hD hS hl h
          · replace h := ifn h q25
            by_cases q32 : ((xs (s1.1).toNatClampNeg) &&& (31 : Int32)) = (3 : Int32)
            · replace h := ifp h q32
              refine lv_tableIn (off := 245) (tgt := 288) hx hb dL_law_43 (by rw [q32]; decide) (by rw [q32]; decide) (by rw [q32]; rfl) (by decide) ?_
              exact law_c3 hst C1 a_x a_x_places a_x_halves a_x_powers a_x_glasses a_x_train a_x_single a_x_fan a_x_bending a_x_opening a_x_choice a_x_train_numbers a_x_train_places a_x_train_halves a_x_train_bends a_x_fan_ray a_x_fan_cuts a_m a_m_place a_m_half a_m_power a_m_glass a_o c0 d0 n1 hc0 hd0 s1 _ ih1 H locs ls hP hD hS hl h
            · replace h := ifn h q32
              by_cases q41 : ((xs (s1.1).toNatClampNeg) &&& (31 : Int32)) = (4 : Int32)
              · replace h := ifp h q41
                refine lv_tableIn (off := 285) (tgt := 328) hx hb dL_law_43 (by rw [q41]; decide) (by rw [q41]; decide) (by rw [q41]; rfl) (by decide) ?_
                exact law_c4 hst C1 a_x a_x_places a_x_halves a_x_powers a_x_glasses a_x_train a_x_single a_x_fan a_x_bending a_x_opening a_x_choice a_x_train_numbers a_x_train_places a_x_train_halves a_x_train_bends a_x_fan_ray a_x_fan_cuts a_m a_m_place a_m_half a_m_power a_m_glass a_o c0 d0 n1 hc0 hd0 s1 _ ih1 H locs ls hP hD hS hl h
              · replace h := ifn h q41
                by_cases q50 : ((xs (s1.1).toNatClampNeg) &&& (31 : Int32)) = (5 : Int32)
                · replace h := ifp h q50
                  refine lv_tableIn (off := 325) (tgt := 368) hx hb dL_law_43 (by rw [q50]; decide) (by rw [q50]; decide) (by rw [q50]; rfl) (by decide) ?_
                  exact law_c5 hst C1 a_x a_x_places a_x_halves a_x_powers a_x_glasses a_x_train a_x_single a_x_fan a_x_bending a_x_opening a_x_choice a_x_train_numbers a_x_train_places a_x_train_halves a_x_train_bends a_x_fan_ray a_x_fan_cuts a_m a_m_place a_m_half a_m_power a_m_glass a_o c0 d0 n1 hc0 hd0 s1 _ ih1 H locs ls hP hD hS hl h
                · replace h := ifn h q50
                  by_cases q59 : ((xs (s1.1).toNatClampNeg) &&& (31 : Int32)) = (6 : Int32)
                  · replace h := ifp h q59
                    refine lv_tableIn (off := 365) (tgt := 408) hx hb dL_law_43 (by rw [q59]; decide) (by rw [q59]; decide) (by rw [q59]; rfl) (by decide) ?_
                    exact law_c6 hst C1 a_x a_x_places a_x_halves a_x_powers a_x_glasses a_x_train a_x_single a_x_fan a_x_bending a_x_opening a_x_choice a_x_train_numbers a_x_train_places a_x_train_halves a_x_train_bends a_x_fan_ray a_x_fan_cuts a_m a_m_place a_m_half a_m_power a_m_glass a_o c0 d0 n1 hc0 hd0 s1 _ ih1 H locs ls hP hD hS hl h
                  · replace h := ifn h q59
                    by_cases q66 : ((xs (s1.1).toNatClampNeg) &&& (31 : Int32)) = (7 : Int32)
                    · replace h := ifp h q66
                      refine lv_tableIn (off := 393) (tgt := 436) hx hb dL_law_43 (by rw [q66]; decide) (by rw [q66]; decide) (by rw [q66]; rfl) (by decide) ?_
                      exact law_c7 hst C1 a_x a_x_places a_x_halves a_x_powers a_x_glasses a_x_train a_x_single a_x_fan a_x_bending a_x_opening a_x_choice a_x_train_numbers a_x_train_places a_x_train_halves a_x_train_bends a_x_fan_ray a_x_fan_cuts a_m a_m_place a_m_half a_m_power a_m_glass a_o c0 d0 n1 hc0 hd0 s1 _ ih1 H locs ls hP hD hS hl h
                    · replace h := ifn h q66
                      by_cases q73 : ((xs (s1.1).toNatClampNeg) &&& (31 : Int32)) = (8 : Int32)
                      · replace h := ifp h q73
                        refine lv_tableIn (off := 421) (tgt := 464) hx hb dL_law_43 (by rw [q73]; decide) (by rw [q73]; decide) (by rw [q73]; rfl) (by decide) ?_
                        exact law_c8 hst C1 a_x a_x_places a_x_halves a_x_powers a_x_glasses a_x_train a_x_single a_x_fan a_x_bending a_x_opening a_x_choice a_x_train_numbers a_x_train_places a_x_train_halves a_x_train_bends a_x_fan_ray a_x_fan_cuts a_m a_m_place a_m_half a_m_power a_m_glass a_o c0 d0 n1 hc0 hd0 s1 _ ih1 H locs ls hP hD hS hl h
                      · replace h := ifn h q73
                        by_cases q80 : ((xs (s1.1).toNatClampNeg) &&& (31 : Int32)) = (9 : Int32)
                        · replace h := ifp h q80
                          refine lv_tableIn (off := 449) (tgt := 492) hx hb dL_law_43 (by rw [q80]; decide) (by rw [q80]; decide) (by rw [q80]; rfl) (by decide) ?_
                          exact law_c9 hst C1 a_x a_x_places a_x_halves a_x_powers a_x_glasses a_x_train a_x_single a_x_fan a_x_bending a_x_opening a_x_choice a_x_train_numbers a_x_train_places a_x_train_halves a_x_train_bends a_x_fan_ray a_x_fan_cuts a_m a_m_place a_m_half a_m_power a_m_glass a_o c0 d0 n1 hc0 hd0 s1 _ ih1 H locs ls hP hD hS hl h
                        · replace h := ifn h q80
                          by_cases q85 : ((xs (s1.1).toNatClampNeg) &&& (31 : Int32)) = (10 : Int32)
                          · replace h := ifp h q85
                            refine lv_tableIn (off := 462) (tgt := 505) hx hb dL_law_43 (by rw [q85]; decide) (by rw [q85]; decide) (by rw [q85]; rfl) (by decide) ?_
                            exact law_c10 hst C1 a_x a_x_places a_x_halves a_x_powers a_x_glasses a_x_train a_x_single a_x_fan a_x_bending a_x_opening a_x_choice a_x_train_numbers a_x_train_places a_x_train_halves a_x_train_bends a_x_fan_ray a_x_fan_cuts a_m a_m_place a_m_half a_m_power a_m_glass a_o c0 d0 n1 hc0 hd0 s1 _ ih1 H locs ls hP hD hS hl h
                          · replace h := ifn h q85
                            by_cases q94 : ((xs (s1.1).toNatClampNeg) &&& (31 : Int32)) = (11 : Int32)
                            · replace h := ifp h q94
                              refine lv_tableIn (off := 502) (tgt := 545) hx hb dL_law_43 (by rw [q94]; decide) (by rw [q94]; decide) (by rw [q94]; rfl) (by decide) ?_
                              exact law_c11 hst C1 a_x a_x_places a_x_halves a_x_powers a_x_glasses a_x_train a_x_single a_x_fan a_x_bending a_x_opening a_x_choice a_x_train_numbers a_x_train_places a_x_train_halves a_x_train_bends a_x_fan_ray a_x_fan_cuts a_m a_m_place a_m_half a_m_power a_m_glass a_o c0 d0 n1 hc0 hd0 s1 _ ih1 H locs ls hP hD hS hl h
                            · replace h := ifn h q94
                              by_cases q103 : ((xs (s1.1).toNatClampNeg) &&& (31 : Int32)) = (12 : Int32)
                              · replace h := ifp h q103
                                refine lv_tableIn (off := 542) (tgt := 585) hx hb dL_law_43 (by rw [q103]; decide) (by rw [q103]; decide) (by rw [q103]; rfl) (by decide) ?_
                                exact law_c12 hst C1 a_x a_x_places a_x_halves a_x_powers a_x_glasses a_x_train a_x_single a_x_fan a_x_bending a_x_opening a_x_choice a_x_train_numbers a_x_train_places a_x_train_halves a_x_train_bends a_x_fan_ray a_x_fan_cuts a_m a_m_place a_m_half a_m_power a_m_glass a_o c0 d0 n1 hc0 hd0 s1 _ ih1 H locs ls hP hD hS hl h
                              · replace h := ifn h q103
                                by_cases q116 : ((xs (s1.1).toNatClampNeg) &&& (31 : Int32)) = (13 : Int32)
                                · replace h := ifp h q116
                                  refine lv_tableIn (off := 606) (tgt := 649) hx hb dL_law_43 (by rw [q116]; decide) (by rw [q116]; decide) (by rw [q116]; rfl) (by decide) ?_
                                  exact law_c13 hst C1 a_x a_x_places a_x_halves a_x_powers a_x_glasses a_x_train a_x_single a_x_fan a_x_bending a_x_opening a_x_choice a_x_train_numbers a_x_train_places a_x_train_halves a_x_train_bends a_x_fan_ray a_x_fan_cuts a_m a_m_place a_m_half a_m_power a_m_glass a_o c0 d0 n1 hc0 hd0 s1 _ ih1 H locs ls hP hD hS hl h
                                · replace h := ifn h q116
                                  by_cases q125 : ((xs (s1.1).toNatClampNeg) &&& (31 : Int32)) = (14 : Int32)
                                  · replace h := ifp h q125
                                    refine lv_tableIn (off := 646) (tgt := 689) hx hb dL_law_43 (by rw [q125]; decide) (by rw [q125]; decide) (by rw [q125]; rfl) (by decide) ?_
                                    exact law_c14 hst C1 a_x a_x_places a_x_halves a_x_powers a_x_glasses a_x_train a_x_single a_x_fan a_x_bending a_x_opening a_x_choice a_x_train_numbers a_x_train_places a_x_train_halves a_x_train_bends a_x_fan_ray a_x_fan_cuts a_m a_m_place a_m_half a_m_power a_m_glass a_o c0 d0 n1 hc0 hd0 s1 _ ih1 H locs ls hP hD hS hl h
                                  · replace h := ifn h q125
                                    by_cases q134 : ((xs (s1.1).toNatClampNeg) &&& (31 : Int32)) = (15 : Int32)
                                    · replace h := ifp h q134
                                      refine lv_tableIn (off := 686) (tgt := 729) hx hb dL_law_43 (by rw [q134]; decide) (by rw [q134]; decide) (by rw [q134]; rfl) (by decide) ?_
                                      exact law_c15 hst C1 a_x a_x_places a_x_halves a_x_powers a_x_glasses a_x_train a_x_single a_x_fan a_x_bending a_x_opening a_x_choice a_x_train_numbers a_x_train_places a_x_train_halves a_x_train_bends a_x_fan_ray a_x_fan_cuts a_m a_m_place a_m_half a_m_power a_m_glass a_o c0 d0 n1 hc0 hd0 s1 _ ih1 H locs ls hP hD hS hl h
                                    · replace h := ifn h q134
                                      by_cases q141 : ((xs (s1.1).toNatClampNeg) &&& (31 : Int32)) = (16 : Int32)
                                      · replace h := ifp h q141
                                        refine lv_tableIn (off := 714) (tgt := 757) hx hb dL_law_43 (by rw [q141]; decide) (by rw [q141]; decide) (by rw [q141]; rfl) (by decide) ?_
                                        exact law_c16 hst C1 a_x a_x_places a_x_halves a_x_powers a_x_glasses a_x_train a_x_single a_x_fan a_x_bending a_x_opening a_x_choice a_x_train_numbers a_x_train_places a_x_train_halves a_x_train_bends a_x_fan_ray a_x_fan_cuts a_m a_m_place a_m_half a_m_power a_m_glass a_o c0 d0 n1 hc0 hd0 s1 _ ih1 H locs ls hP hD hS hl h
                                      · replace h := ifn h q141
                                        by_cases q148 : ((xs (s1.1).toNatClampNeg) &&& (31 : Int32)) = (17 : Int32)
                                        · replace h := ifp h q148
                                          refine lv_tableIn (off := 742) (tgt := 785) hx hb dL_law_43 (by rw [q148]; decide) (by rw [q148]; decide) (by rw [q148]; rfl) (by decide) ?_
                                          exact law_c17 hst C1 a_x a_x_places a_x_halves a_x_powers a_x_glasses a_x_train a_x_single a_x_fan a_x_bending a_x_opening a_x_choice a_x_train_numbers a_x_train_places a_x_train_halves a_x_train_bends a_x_fan_ray a_x_fan_cuts a_m a_m_place a_m_half a_m_power a_m_glass a_o c0 d0 n1 hc0 hd0 s1 _ ih1 H locs ls hP hD hS hl h
                                        · replace h := ifn h q148
                                          by_cases q153 : ((xs (s1.1).toNatClampNeg) &&& (31 : Int32)) = (18 : Int32)
                                          · replace h := ifp h q153
                                            refine lv_tableIn (off := 755) (tgt := 798) hx hb dL_law_43 (by rw [q153]; decide) (by rw [q153]; decide) (by rw [q153]; rfl) (by decide) ?_
                                            exact law_c18 hst C1 a_x a_x_places a_x_halves a_x_powers a_x_glasses a_x_train a_x_single a_x_fan a_x_bending a_x_opening a_x_choice a_x_train_numbers a_x_train_places a_x_train_halves a_x_train_bends a_x_fan_ray a_x_fan_cuts a_m a_m_place a_m_half a_m_power a_m_glass a_o c0 d0 n1 hc0 hd0 s1 _ ih1 H locs ls hP hD hS hl h
                                          · replace h := ifn h q153
                                            by_cases q158 : ((xs (s1.1).toNatClampNeg) &&& (31 : Int32)) = (19 : Int32)
                                            · replace h := ifp h q158
                                              refine lv_tableIn (off := 770) (tgt := 813) hx hb dL_law_43 (by rw [q158]; decide) (by rw [q158]; decide) (by rw [q158]; rfl) (by decide) ?_
                                              exact law_c19 hst C1 a_x a_x_places a_x_halves a_x_powers a_x_glasses a_x_train a_x_single a_x_fan a_x_bending a_x_opening a_x_choice a_x_train_numbers a_x_train_places a_x_train_halves a_x_train_bends a_x_fan_ray a_x_fan_cuts a_m a_m_place a_m_half a_m_power a_m_glass a_o c0 d0 n1 hc0 hd0 s1 _ ih1 H locs ls hP hD hS hl h
                                            · replace h := ifn h q158
                                              by_cases q165 : ((xs (s1.1).toNatClampNeg) &&& (31 : Int32)) = (20 : Int32)
                                              · replace h := ifp h q165
                                                refine lv_tableIn (off := 798) (tgt := 841) hx hb dL_law_43 (by rw [q165]; decide) (by rw [q165]; decide) (by rw [q165]; rfl) (by decide) ?_
                                                exact law_c20 hst C1 a_x a_x_places a_x_halves a_x_powers a_x_glasses a_x_train a_x_single a_x_fan a_x_bending a_x_opening a_x_choice a_x_train_numbers a_x_train_places a_x_train_halves a_x_train_bends a_x_fan_ray a_x_fan_cuts a_m a_m_place a_m_half a_m_power a_m_glass a_o c0 d0 n1 hc0 hd0 s1 _ ih1 H locs ls hP hD hS hl h
                                              · replace h := ifn h q165
                                                by_cases q173 : ((xs (s1.1).toNatClampNeg) &&& (31 : Int32)) = (21 : Int32)
                                                · replace h := ifp h q173
                                                  refine lv_tableIn (off := 839) (tgt := 882) hx hb dL_law_43 (by rw [q173]; decide) (by rw [q173]; decide) (by rw [q173]; rfl) (by decide) ?_
                                                  exact law_c21 hst C1 a_x a_x_places a_x_halves a_x_powers a_x_glasses a_x_train a_x_single a_x_fan a_x_bending a_x_opening a_x_choice a_x_train_numbers a_x_train_places a_x_train_halves a_x_train_bends a_x_fan_ray a_x_fan_cuts a_m a_m_place a_m_half a_m_power a_m_glass a_o c0 d0 n1 hc0 hd0 s1 _ ih1 H locs ls hP hD hS hl h
                                                · replace h := ifn h q173
                                                  by_cases q180 : ((xs (s1.1).toNatClampNeg) &&& (31 : Int32)) = (22 : Int32)
                                                  · replace h := ifp h q180
                                                    refine lv_tableIn (off := 867) (tgt := 910) hx hb dL_law_43 (by rw [q180]; decide) (by rw [q180]; decide) (by rw [q180]; rfl) (by decide) ?_
                                                    exact law_c22 hst C1 a_x a_x_places a_x_halves a_x_powers a_x_glasses a_x_train a_x_single a_x_fan a_x_bending a_x_opening a_x_choice a_x_train_numbers a_x_train_places a_x_train_halves a_x_train_bends a_x_fan_ray a_x_fan_cuts a_m a_m_place a_m_half a_m_power a_m_glass a_o c0 d0 n1 hc0 hd0 s1 _ ih1 H locs ls hP hD hS hl h
                                                  · replace h := ifn h q180
                                                    by_cases q189 : ((xs (s1.1).toNatClampNeg) &&& (31 : Int32)) = (23 : Int32)
                                                    · replace h := ifp h q189
                                                      refine lv_tableIn (off := 907) (tgt := 950) hx hb dL_law_43 (by rw [q189]; decide) (by rw [q189]; decide) (by rw [q189]; rfl) (by decide) ?_
                                                      exact law_c23 hst C1 a_x a_x_places a_x_halves a_x_powers a_x_glasses a_x_train a_x_single a_x_fan a_x_bending a_x_opening a_x_choice a_x_train_numbers a_x_train_places a_x_train_halves a_x_train_bends a_x_fan_ray a_x_fan_cuts a_m a_m_place a_m_half a_m_power a_m_glass a_o c0 d0 n1 hc0 hd0 s1 _ ih1 H locs ls hP hD hS hl h
                                                    · replace h := ifn h q189
                                                      by_cases q196 : ((xs (s1.1).toNatClampNeg) &&& (31 : Int32)) = (24 : Int32)
                                                      · replace h := ifp h q196
                                                        refine lv_tableIn (off := 935) (tgt := 978) hx hb dL_law_43 (by rw [q196]; decide) (by rw [q196]; decide) (by rw [q196]; rfl) (by decide) ?_
                                                        exact law_c24 hst C1 a_x a_x_places a_x_halves a_x_powers a_x_glasses a_x_train a_x_single a_x_fan a_x_bending a_x_opening a_x_choice a_x_train_numbers a_x_train_places a_x_train_halves a_x_train_bends a_x_fan_ray a_x_fan_cuts a_m a_m_place a_m_half a_m_power a_m_glass a_o c0 d0 n1 hc0 hd0 s1 _ ih1 H locs ls hP hD hS hl h
                                                      · replace h := ifn h q196
                                                        have tq3 := lv_neT q3 (show ((0 : Int32)).toInt = 0 from rfl)
                                                        have tq16 := lv_neT q16 (show ((1 : Int32)).toInt = 1 from rfl)
                                                        have tq25 := lv_neT q25 (show ((2 : Int32)).toInt = 2 from rfl)
                                                        have tq32 := lv_neT q32 (show ((3 : Int32)).toInt = 3 from rfl)
                                                        have tq41 := lv_neT q41 (show ((4 : Int32)).toInt = 4 from rfl)
                                                        have tq50 := lv_neT q50 (show ((5 : Int32)).toInt = 5 from rfl)
                                                        have tq59 := lv_neT q59 (show ((6 : Int32)).toInt = 6 from rfl)
                                                        have tq66 := lv_neT q66 (show ((7 : Int32)).toInt = 7 from rfl)
                                                        have tq73 := lv_neT q73 (show ((8 : Int32)).toInt = 8 from rfl)
                                                        have tq80 := lv_neT q80 (show ((9 : Int32)).toInt = 9 from rfl)
                                                        have tq85 := lv_neT q85 (show ((10 : Int32)).toInt = 10 from rfl)
                                                        have tq94 := lv_neT q94 (show ((11 : Int32)).toInt = 11 from rfl)
                                                        have tq103 := lv_neT q103 (show ((12 : Int32)).toInt = 12 from rfl)
                                                        have tq116 := lv_neT q116 (show ((13 : Int32)).toInt = 13 from rfl)
                                                        have tq125 := lv_neT q125 (show ((14 : Int32)).toInt = 14 from rfl)
                                                        have tq134 := lv_neT q134 (show ((15 : Int32)).toInt = 15 from rfl)
                                                        have tq141 := lv_neT q141 (show ((16 : Int32)).toInt = 16 from rfl)
                                                        have tq148 := lv_neT q148 (show ((17 : Int32)).toInt = 17 from rfl)
                                                        have tq153 := lv_neT q153 (show ((18 : Int32)).toInt = 18 from rfl)
                                                        have tq158 := lv_neT q158 (show ((19 : Int32)).toInt = 19 from rfl)
                                                        have tq165 := lv_neT q165 (show ((20 : Int32)).toInt = 20 from rfl)
                                                        have tq173 := lv_neT q173 (show ((21 : Int32)).toInt = 21 from rfl)
                                                        have tq180 := lv_neT q180 (show ((22 : Int32)).toInt = 22 from rfl)
                                                        have tq189 := lv_neT q189 (show ((23 : Int32)).toInt = 23 from rfl)
                                                        have tq196 := lv_neT q196 (show ((24 : Int32)).toInt = 24 from rfl)
                                                        refine lv_tableOut (tgt := 991) hx hb dL_law_43 (by omega) (by decide) ?_
                                                        refine lv_iinc (v := (s1.1 + (5 : Int32))) (lv' := [(4, .int (s1.1 + (5 : Int32))), (3, .ref a_o), (2, .ref a_m), (1, .ref a_x), (0, .ref b)]) hx hb dL_law_991 hl (k := 0) rfl rfl (by decide) rfl (fun ls hl => ?_)
                                                        refine lv_goto (tgt := 27) hx hb dL_law_994 (by decide) ?_
                                                        exact ih1 ((s1.1 + (5 : Int32)), s1.2.1, s1.2.2.1, s1.2.2.2.1, s1.2.2.2.2.1, s1.2.2.2.2.2.1, s1.2.2.2.2.2.2.1, s1.2.2.2.2.2.2.2.1, s1.2.2.2.2.2.2.2.2.1, s1.2.2.2.2.2.2.2.2.2.1, s1.2.2.2.2.2.2.2.2.2.2.1, s1.2.2.2.2.2.2.2.2.2.2.2.1, s1.2.2.2.2.2.2.2.2.2.2.2.2.1, s1.2.2.2.2.2.2.2.2.2.2.2.2.2.1, s1.2.2.2.2.2.2.2.2.2.2.2.2.2.2.1, s1.2.2.2.2.2.2.2.2.2.2.2.2.2.2.2.1, s1.2.2.2.2.2.2.2.2.2.2.2.2.2.2.2.2.1, s1.2.2.2.2.2.2.2.2.2.2.2.2.2.2.2.2.2.1, s1.2.2.2.2.2.2.2.2.2.2.2.2.2.2.2.2.2.2.1, s1.2.2.2.2.2.2.2.2.2.2.2.2.2.2.2.2.2.2.2.1, s1.2.2.2.2.2.2.2.2.2.2.2.2.2.2.2.2.2.2.2.2.1, s1.2.2.2.2.2.2.2.2.2.2.2.2.2.2.2.2.2.2.2.2.2.1, s1.2.2.2.2.2.2.2.2.2.2.2.2.2.2.2.2.2.2.2.2.2.2.1, s1.2.2.2.2.2.2.2.2.2.2.2.2.2.2.2.2.2.2.2.2.2.2.2.1, s1.2.2.2.2.2.2.2.2.2.2.2.2.2.2.2.2.2.2.2.2.2.2.2.2.1, s1.2.2.2.2.2.2.2.2.2.2.2.2.2.2.2.2.2.2.2.2.2.2.2.2.2.1, s1.2.2.2.2.2.2.2.2.2.2.2.2.2.2.2.2.2.2.2.2.2.2.2.2.2.2.1, s1.2.2.2.2.2.2.2.2.2.2.2.2.2.2.2.2.2.2.2.2.2.2.2.2.2.2.2.1, s1.2.2.2.2.2.2.2.2.2.2.2.2.2.2.2.2.2.2.2.2.2.2.2.2.2.2.2.2.1, s1.2.2.2.2.2.2.2.2.2.2.2.2.2.2.2.2.2.2.2.2.2.2.2.2.2.2.2.2.2.1, s1.2.2.2.2.2.2.2.2.2.2.2.2.2.2.2.2.2.2.2.2.2.2.2.2.2.2.2.2.2.2.1, s1.2.2.2.2.2.2.2.2.2.2.2.2.2.2.2.2.2.2.2.2.2.2.2.2.2.2.2.2.2.2.2.1, s1.2.2.2.2.2.2.2.2.2.2.2.2.2.2.2.2.2.2.2.2.2.2.2.2.2.2.2.2.2.2.2.2.1, s1.2.2.2.2.2.2.2.2.2.2.2.2.2.2.2.2.2.2.2.2.2.2.2.2.2.2.2.2.2.2.2.2.2.1, s1.2.2.2.2.2.2.2.2.2.2.2.2.2.2.2.2.2.2.2.2.2.2.2.2.2.2.2.2.2.2.2.2.2.2.1, s1.2.2.2.2.2.2.2.2.2.2.2.2.2.2.2.2.2.2.2.2.2.2.2.2.2.2.2.2.2.2.2.2.2.2.2.1, s1.2.2.2.2.2.2.2.2.2.2.2.2.2.2.2.2.2.2.2.2.2.2.2.2.2.2.2.2.2.2.2.2.2.2.2.2.1, s1.2.2.2.2.2.2.2.2.2.2.2.2.2.2.2.2.2.2.2.2.2.2.2.2.2.2.2.2.2.2.2.2.2.2.2.2.2.1, s1.2.2.2.2.2.2.2.2.2.2.2.2.2.2.2.2.2.2.2.2.2.2.2.2.2.2.2.2.2.2.2.2.2.2.2.2.2.2.1, s1.2.2.2.2.2.2.2.2.2.2.2.2.2.2.2.2.2.2.2.2.2.2.2.2.2.2.2.2.2.2.2.2.2.2.2.2.2.2.2.1, s1.2.2.2.2.2.2.2.2.2.2.2.2.2.2.2.2.2.2.2.2.2.2.2.2.2.2.2.2.2.2.2.2.2.2.2.2.2.2.2.2.1, s1.2.2.2.2.2.2.2.2.2.2.2.2.2.2.2.2.2.2.2.2.2.2.2.2.2.2.2.2.2.2.2.2.2.2.2.2.2.2.2.2.2.1, s1.2.2.2.2.2.2.2.2.2.2.2.2.2.2.2.2.2.2.2.2.2.2.2.2.2.2.2.2.2.2.2.2.2.2.2.2.2.2.2.2.2.2.1, s1.2.2.2.2.2.2.2.2.2.2.2.2.2.2.2.2.2.2.2.2.2.2.2.2.2.2.2.2.2.2.2.2.2.2.2.2.2.2.2.2.2.2.2.1, s1.2.2.2.2.2.2.2.2.2.2.2.2.2.2.2.2.2.2.2.2.2.2.2.2.2.2.2.2.2.2.2.2.2.2.2.2.2.2.2.2.2.2.2.2.1, s1.2.2.2.2.2.2.2.2.2.2.2.2.2.2.2.2.2.2.2.2.2.2.2.2.2.2.2.2.2.2.2.2.2.2.2.2.2.2.2.2.2.2.2.2.2.1, s1.2.2.2.2.2.2.2.2.2.2.2.2.2.2.2.2.2.2.2.2.2.2.2.2.2.2.2.2.2.2.2.2.2.2.2.2.2.2.2.2.2.2.2.2.2.2.1, s1.2.2.2.2.2.2.2.2.2.2.2.2.2.2.2.2.2.2.2.2.2.2.2.2.2.2.2.2.2.2.2.2.2.2.2.2.2.2.2.2.2.2.2.2.2.2.2.1, s1.2.2.2.2.2.2.2.2.2.2.2.2.2.2.2.2.2.2.2.2.2.2.2.2.2.2.2.2.2.2.2.2.2.2.2.2.2.2.2.2.2.2.2.2.2.2.2.2.1, s1.2.2.2.2.2.2.2.2.2.2.2.2.2.2.2.2.2.2.2.2.2.2.2.2.2.2.2.2.2.2.2.2.2.2.2.2.2.2.2.2.2.2.2.2.2.2.2.2.2.1, s1.2.2.2.2.2.2.2.2.2.2.2.2.2.2.2.2.2.2.2.2.2.2.2.2.2.2.2.2.2.2.2.2.2.2.2.2.2.2.2.2.2.2.2.2.2.2.2.2.2.2) _ _ _ _ _ (by omega) (by omega) hP hD hS (lv_sub hl [0, 1, 2, 3, 4] rfl) h
