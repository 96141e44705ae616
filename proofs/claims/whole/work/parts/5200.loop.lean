set_option maxHeartbeats 8000000 in
set_option maxRecDepth 100000 in
theorem law_loop {p : Program} {e : Env} {s : State} {m : MethodId} {below : List Frame} {meth : Method} {c : Code} {l : Launch} (hst : l.stackTraces = false) {b L : Nat} {xs : Nat → Int32} {D : va_G} {cI cD cB : ClassId} (C1 : LawC p s m meth c b L xs D (TT cI cD cB)) (a_x : Nat) (a_x_places : Nat) (a_x_halves : Nat) (a_x_powers : Nat) (a_x_glasses : Nat) (a_x_train : Nat) (a_x_single : Nat) (a_x_fan : Nat) (a_x_bending : Nat) (a_x_opening : Nat) (a_x_choice : Nat) (a_x_train_numbers : Nat) (a_x_train_places : Nat) (a_x_train_halves : Nat) (a_x_train_bends : Nat) (a_x_fan_ray : Nat) (a_x_fan_cuts : Nat) (a_m : Nat) (a_m_place : Nat) (a_m_half : Nat) (a_m_power : Nat) (a_m_glass : Nat) (a_o : Nat) : ∀ (n1 : Nat) (s1 : Int32 × Int32 × Int32 × Int32 × Int32 × Int32 × (Nat → Int32) × (Nat → Int32) × (Nat → Int32) × (Nat → Int32) × Int32 × Int32 × Int32 × (Nat → Int32) × (Nat → Int32) × (Nat → Int32) × (Nat → UInt64) × UInt64 × UInt64 × Int32 × Int32 × UInt64 × UInt64 × UInt64 × UInt64 × Int32 × (Nat → Int32) × UInt64 × UInt64 × UInt64 × UInt64 × Int32 × UInt64 × Int32 × UInt64 × Int32 × Int32 × Int32 × Int32 × Int32 × Int32 × UInt64 × UInt64 × Int32 × Int64 × (Nat → Int32) × (Nat → Int32) × (Nat → Int32) × (Nat → Int32) × Int64 × UInt64) (c0 d0 : Nat) (H : Heap) (locs : List Loc) (ls : Array Slot), c0 + 20 * n1 ≤ 745887 → d0 + 300 * n1 ≤ 6858442 → va_P D vwCl [(a_x, .inr (8, [.ref a_x_places, .ref a_x_halves, .ref a_x_powers, .ref a_x_glasses, .int s1.2.1, .int s1.2.2.1, .int s1.2.2.2.1, .int s1.2.2.2.2.1, .int s1.2.2.2.2.2.1, .ref a_x_train, .ref a_x_single, .ref a_x_fan, .ref a_x_bending, .ref a_x_opening, .ref a_x_choice])), (a_x_places, .inl (cI, 8, .inl s1.2.2.2.2.2.2.1)), (a_x_halves, .inl (cI, 8, .inl s1.2.2.2.2.2.2.2.1)), (a_x_powers, .inl (cI, 8, .inl s1.2.2.2.2.2.2.2.2.1)), (a_x_glasses, .inl (cI, 8, .inl s1.2.2.2.2.2.2.2.2.2.1)), (a_x_train, .inr (7, [.ref a_x_train_numbers, .ref a_x_train_places, .ref a_x_train_halves, .ref a_x_train_bends, .int s1.2.2.2.2.2.2.2.2.2.2.1, .int s1.2.2.2.2.2.2.2.2.2.2.2.1, .int s1.2.2.2.2.2.2.2.2.2.2.2.2.1])), (a_x_train_numbers, .inl (cI, 8, .inl s1.2.2.2.2.2.2.2.2.2.2.2.2.2.1)), (a_x_train_places, .inl (cI, 8, .inl s1.2.2.2.2.2.2.2.2.2.2.2.2.2.2.1)), (a_x_train_halves, .inl (cI, 8, .inl s1.2.2.2.2.2.2.2.2.2.2.2.2.2.2.2.1)), (a_x_train_bends, .inl (cD, 8, .inr (.inr (.inr (.inl s1.2.2.2.2.2.2.2.2.2.2.2.2.2.2.2.2.1))))), (a_x_single, .inr (5, [.double s1.2.2.2.2.2.2.2.2.2.2.2.2.2.2.2.2.2.1, .double s1.2.2.2.2.2.2.2.2.2.2.2.2.2.2.2.2.2.2.1, .int s1.2.2.2.2.2.2.2.2.2.2.2.2.2.2.2.2.2.2.2.1])), (a_x_fan, .inr (3, [.ref a_x_fan_ray, .ref a_x_fan_cuts, .int s1.2.2.2.2.2.2.2.2.2.2.2.2.2.2.2.2.2.2.2.2.1, .double s1.2.2.2.2.2.2.2.2.2.2.2.2.2.2.2.2.2.2.2.2.2.1, .double s1.2.2.2.2.2.2.2.2.2.2.2.2.2.2.2.2.2.2.2.2.2.2.1])), (a_x_fan_ray, .inr (5, [.double s1.2.2.2.2.2.2.2.2.2.2.2.2.2.2.2.2.2.2.2.2.2.2.2.1, .double s1.2.2.2.2.2.2.2.2.2.2.2.2.2.2.2.2.2.2.2.2.2.2.2.2.1, .int s1.2.2.2.2.2.2.2.2.2.2.2.2.2.2.2.2.2.2.2.2.2.2.2.2.2.1])), (a_x_fan_cuts, .inl (cI, 8, .inl s1.2.2.2.2.2.2.2.2.2.2.2.2.2.2.2.2.2.2.2.2.2.2.2.2.2.2.1)), (a_x_bending, .inr (6, [.double s1.2.2.2.2.2.2.2.2.2.2.2.2.2.2.2.2.2.2.2.2.2.2.2.2.2.2.2.1, .double s1.2.2.2.2.2.2.2.2.2.2.2.2.2.2.2.2.2.2.2.2.2.2.2.2.2.2.2.2.1, .double s1.2.2.2.2.2.2.2.2.2.2.2.2.2.2.2.2.2.2.2.2.2.2.2.2.2.2.2.2.2.1, .double s1.2.2.2.2.2.2.2.2.2.2.2.2.2.2.2.2.2.2.2.2.2.2.2.2.2.2.2.2.2.2.1])), (a_x_opening, .inr (4, [.int s1.2.2.2.2.2.2.2.2.2.2.2.2.2.2.2.2.2.2.2.2.2.2.2.2.2.2.2.2.2.2.2.1, .double s1.2.2.2.2.2.2.2.2.2.2.2.2.2.2.2.2.2.2.2.2.2.2.2.2.2.2.2.2.2.2.2.2.1])), (a_x_choice, .inr (2, [.int s1.2.2.2.2.2.2.2.2.2.2.2.2.2.2.2.2.2.2.2.2.2.2.2.2.2.2.2.2.2.2.2.2.2.1, .double s1.2.2.2.2.2.2.2.2.2.2.2.2.2.2.2.2.2.2.2.2.2.2.2.2.2.2.2.2.2.2.2.2.2.2.1])), (a_m, .inr (10, [.int s1.2.2.2.2.2.2.2.2.2.2.2.2.2.2.2.2.2.2.2.2.2.2.2.2.2.2.2.2.2.2.2.2.2.2.2.1, .int s1.2.2.2.2.2.2.2.2.2.2.2.2.2.2.2.2.2.2.2.2.2.2.2.2.2.2.2.2.2.2.2.2.2.2.2.2.1, .ref a_m_place, .ref a_m_half, .ref a_m_power, .ref a_m_glass, .int s1.2.2.2.2.2.2.2.2.2.2.2.2.2.2.2.2.2.2.2.2.2.2.2.2.2.2.2.2.2.2.2.2.2.2.2.2.2.1, .int s1.2.2.2.2.2.2.2.2.2.2.2.2.2.2.2.2.2.2.2.2.2.2.2.2.2.2.2.2.2.2.2.2.2.2.2.2.2.2.1, .int s1.2.2.2.2.2.2.2.2.2.2.2.2.2.2.2.2.2.2.2.2.2.2.2.2.2.2.2.2.2.2.2.2.2.2.2.2.2.2.2.1, .int s1.2.2.2.2.2.2.2.2.2.2.2.2.2.2.2.2.2.2.2.2.2.2.2.2.2.2.2.2.2.2.2.2.2.2.2.2.2.2.2.2.1, .double s1.2.2.2.2.2.2.2.2.2.2.2.2.2.2.2.2.2.2.2.2.2.2.2.2.2.2.2.2.2.2.2.2.2.2.2.2.2.2.2.2.2.1, .double s1.2.2.2.2.2.2.2.2.2.2.2.2.2.2.2.2.2.2.2.2.2.2.2.2.2.2.2.2.2.2.2.2.2.2.2.2.2.2.2.2.2.2.1, .int s1.2.2.2.2.2.2.2.2.2.2.2.2.2.2.2.2.2.2.2.2.2.2.2.2.2.2.2.2.2.2.2.2.2.2.2.2.2.2.2.2.2.2.2.1, .long s1.2.2.2.2.2.2.2.2.2.2.2.2.2.2.2.2.2.2.2.2.2.2.2.2.2.2.2.2.2.2.2.2.2.2.2.2.2.2.2.2.2.2.2.2.1])), (a_m_place, .inl (cI, 8, .inl s1.2.2.2.2.2.2.2.2.2.2.2.2.2.2.2.2.2.2.2.2.2.2.2.2.2.2.2.2.2.2.2.2.2.2.2.2.2.2.2.2.2.2.2.2.2.1)), (a_m_half, .inl (cI, 8, .inl s1.2.2.2.2.2.2.2.2.2.2.2.2.2.2.2.2.2.2.2.2.2.2.2.2.2.2.2.2.2.2.2.2.2.2.2.2.2.2.2.2.2.2.2.2.2.2.1)), (a_m_power, .inl (cI, 8, .inl s1.2.2.2.2.2.2.2.2.2.2.2.2.2.2.2.2.2.2.2.2.2.2.2.2.2.2.2.2.2.2.2.2.2.2.2.2.2.2.2.2.2.2.2.2.2.2.2.1)), (a_m_glass, .inl (cI, 8, .inl s1.2.2.2.2.2.2.2.2.2.2.2.2.2.2.2.2.2.2.2.2.2.2.2.2.2.2.2.2.2.2.2.2.2.2.2.2.2.2.2.2.2.2.2.2.2.2.2.2.1)), (a_o, .inr (9, [.long s1.2.2.2.2.2.2.2.2.2.2.2.2.2.2.2.2.2.2.2.2.2.2.2.2.2.2.2.2.2.2.2.2.2.2.2.2.2.2.2.2.2.2.2.2.2.2.2.2.2.1, .double s1.2.2.2.2.2.2.2.2.2.2.2.2.2.2.2.2.2.2.2.2.2.2.2.2.2.2.2.2.2.2.2.2.2.2.2.2.2.2.2.2.2.2.2.2.2.2.2.2.2.2]))] H → va_D (fun q : Nat => s.heap.size ≤ q) [(a_x, .inr (8, [.ref a_x_places, .ref a_x_halves, .ref a_x_powers, .ref a_x_glasses, .int s1.2.1, .int s1.2.2.1, .int s1.2.2.2.1, .int s1.2.2.2.2.1, .int s1.2.2.2.2.2.1, .ref a_x_train, .ref a_x_single, .ref a_x_fan, .ref a_x_bending, .ref a_x_opening, .ref a_x_choice])), (a_x_places, .inl (cI, 8, .inl s1.2.2.2.2.2.2.1)), (a_x_halves, .inl (cI, 8, .inl s1.2.2.2.2.2.2.2.1)), (a_x_powers, .inl (cI, 8, .inl s1.2.2.2.2.2.2.2.2.1)), (a_x_glasses, .inl (cI, 8, .inl s1.2.2.2.2.2.2.2.2.2.1)), (a_x_train, .inr (7, [.ref a_x_train_numbers, .ref a_x_train_places, .ref a_x_train_halves, .ref a_x_train_bends, .int s1.2.2.2.2.2.2.2.2.2.2.1, .int s1.2.2.2.2.2.2.2.2.2.2.2.1, .int s1.2.2.2.2.2.2.2.2.2.2.2.2.1])), (a_x_train_numbers, .inl (cI, 8, .inl s1.2.2.2.2.2.2.2.2.2.2.2.2.2.1)), (a_x_train_places, .inl (cI, 8, .inl s1.2.2.2.2.2.2.2.2.2.2.2.2.2.2.1)), (a_x_train_halves, .inl (cI, 8, .inl s1.2.2.2.2.2.2.2.2.2.2.2.2.2.2.2.1)), (a_x_train_bends, .inl (cD, 8, .inr (.inr (.inr (.inl s1.2.2.2.2.2.2.2.2.2.2.2.2.2.2.2.2.1))))), (a_x_single, .inr (5, [.double s1.2.2.2.2.2.2.2.2.2.2.2.2.2.2.2.2.2.1, .double s1.2.2.2.2.2.2.2.2.2.2.2.2.2.2.2.2.2.2.1, .int s1.2.2.2.2.2.2.2.2.2.2.2.2.2.2.2.2.2.2.2.1])), (a_x_fan, .inr (3, [.ref a_x_fan_ray, .ref a_x_fan_cuts, .int s1.2.2.2.2.2.2.2.2.2.2.2.2.2.2.2.2.2.2.2.2.1, .double s1.2.2.2.2.2.2.2.2.2.2.2.2.2.2.2.2.2.2.2.2.2.1, .double s1.2.2.2.2.2.2.2.2.2.2.2.2.2.2.2.2.2.2.2.2.2.2.1])), (a_x_fan_ray, .inr (5, [.double s1.2.2.2.2.2.2.2.2.2.2.2.2.2.2.2.2.2.2.2.2.2.2.2.1, .double s1.2.2.2.2.2.2.2.2.2.2.2.2.2.2.2.2.2.2.2.2.2.2.2.2.1, .int s1.2.2.2.2.2.2.2.2.2.2.2.2.2.2.2.2.2.2.2.2.2.2.2.2.2.1])), (a_x_fan_cuts, .inl (cI, 8, .inl s1.2.2.2.2.2.2.2.2.2.2.2.2.2.2.2.2.2.2.2.2.2.2.2.2.2.2.1)), (a_x_bending, .inr (6, [.double s1.2.2.2.2.2.2.2.2.2.2.2.2.2.2.2.2.2.2.2.2.2.2.2.2.2.2.2.1, .double s1.2.2.2.2.2.2.2.2.2.2.2.2.2.2.2.2.2.2.2.2.2.2.2.2.2.2.2.2.1, .double s1.2.2.2.2.2.2.2.2.2.2.2.2.2.2.2.2.2.2.2.2.2.2.2.2.2.2.2.2.2.1, .double s1.2.2.2.2.2.2.2.2.2.2.2.2.2.2.2.2.2.2.2.2.2.2.2.2.2.2.2.2.2.2.1])), (a_x_opening, .inr (4, [.int s1.2.2.2.2.2.2.2.2.2.2.2.2.2.2.2.2.2.2.2.2.2.2.2.2.2.2.2.2.2.2.2.1, .double s1.2.2.2.2.2.2.2.2.2.2.2.2.2.2.2.2.2.2.2.2.2.2.2.2.2.2.2.2.2.2.2.2.1])), (a_x_choice, .inr (2, [.int s1.2.2.2.2.2.2.2.2.2.2.2.2.2.2.2.2.2.2.2.2.2.2.2.2.2.2.2.2.2.2.2.2.2.1, .double s1.2.2.2.2.2.2.2.2.2.2.2.2.2.2.2.2.2.2.2.2.2.2.2.2.2.2.2.2.2.2.2.2.2.2.1])), (a_m, .inr (10, [.int s1.2.2.2.2.2.2.2.2.2.2.2.2.2.2.2.2.2.2.2.2.2.2.2.2.2.2.2.2.2.2.2.2.2.2.2.1, .int s1.2.2.2.2.2.2.2.2.2.2.2.2.2.2.2.2.2.2.2.2.2.2.2.2.2.2.2.2.2.2.2.2.2.2.2.2.1, .ref a_m_place, .ref a_m_half, .ref a_m_power, .ref a_m_glass, .int s1.2.2.2.2.2.2.2.2.2.2.2.2.2.2.2.2.2.2.2.2.2.2.2.2.2.2.2.2.2.2.2.2.2.2.2.2.2.1, .int s1.2.2.2.2.2.2.2.2.2.2.2.2.2.2.2.2.2.2.2.2.2.2.2.2.2.2.2.2.2.2.2.2.2.2.2.2.2.2.1, .int s1.2.2.2.2.2.2.2.2.2.2.2.2.2.2.2.2.2.2.2.2.2.2.2.2.2.2.2.2.2.2.2.2.2.2.2.2.2.2.2.1, .int s1.2.2.2.2.2.2.2.2.2.2.2.2.2.2.2.2.2.2.2.2.2.2.2.2.2.2.2.2.2.2.2.2.2.2.2.2.2.2.2.2.1, .double s1.2.2.2.2.2.2.2.2.2.2.2.2.2.2.2.2.2.2.2.2.2.2.2.2.2.2.2.2.2.2.2.2.2.2.2.2.2.2.2.2.2.1, .double s1.2.2.2.2.2.2.2.2.2.2.2.2.2.2.2.2.2.2.2.2.2.2.2.2.2.2.2.2.2.2.2.2.2.2.2.2.2.2.2.2.2.2.1, .int s1.2.2.2.2.2.2.2.2.2.2.2.2.2.2.2.2.2.2.2.2.2.2.2.2.2.2.2.2.2.2.2.2.2.2.2.2.2.2.2.2.2.2.2.1, .long s1.2.2.2.2.2.2.2.2.2.2.2.2.2.2.2.2.2.2.2.2.2.2.2.2.2.2.2.2.2.2.2.2.2.2.2.2.2.2.2.2.2.2.2.2.1])), (a_m_place, .inl (cI, 8, .inl s1.2.2.2.2.2.2.2.2.2.2.2.2.2.2.2.2.2.2.2.2.2.2.2.2.2.2.2.2.2.2.2.2.2.2.2.2.2.2.2.2.2.2.2.2.2.1)), (a_m_half, .inl (cI, 8, .inl s1.2.2.2.2.2.2.2.2.2.2.2.2.2.2.2.2.2.2.2.2.2.2.2.2.2.2.2.2.2.2.2.2.2.2.2.2.2.2.2.2.2.2.2.2.2.2.1)), (a_m_power, .inl (cI, 8, .inl s1.2.2.2.2.2.2.2.2.2.2.2.2.2.2.2.2.2.2.2.2.2.2.2.2.2.2.2.2.2.2.2.2.2.2.2.2.2.2.2.2.2.2.2.2.2.2.2.1)), (a_m_glass, .inl (cI, 8, .inl s1.2.2.2.2.2.2.2.2.2.2.2.2.2.2.2.2.2.2.2.2.2.2.2.2.2.2.2.2.2.2.2.2.2.2.2.2.2.2.2.2.2.2.2.2.2.2.2.2.1)), (a_o, .inr (9, [.long s1.2.2.2.2.2.2.2.2.2.2.2.2.2.2.2.2.2.2.2.2.2.2.2.2.2.2.2.2.2.2.2.2.2.2.2.2.2.2.2.2.2.2.2.2.2.2.2.2.2.1, .double s1.2.2.2.2.2.2.2.2.2.2.2.2.2.2.2.2.2.2.2.2.2.2.2.2.2.2.2.2.2.2.2.2.2.2.2.2.2.2.2.2.2.2.2.2.2.2.2.2.2.2]))] → va_S (fun q : Nat => s.heap.size ≤ q) s.heap H locs → lv_has ls 9 [(4, .int s1.1), (3, .ref a_o), (2, .ref a_m), (1, .ref a_x), (0, .ref b)] → lp (f_law_b1 xs L) n1 s1 = some 1 → W p l e room_1 s m #[Value.ref b] below meth c H locs c0 d0 (lw_Z below #[Value.ref b] s) (F0 m 27 ls []) := by
  obtain ⟨hx, hb, hr, hml, hown, hts, hX, hbl, hlocks, hNM, hZ, hK⟩ := id C1
  have hA : ∀ q : Nat, s.heap.size ≤ q → (fun q : Nat => s.heap.size ≤ q) q := fun _ h => h
  have hbA : ¬ (fun q : Nat => s.heap.size ≤ q) b := Nat.not_le.mpr hbl
  intro n1
  induction n1 with
  | zero => intro s1 c0 d0 H locs ls hc0 hd0 hP hD hS hl h; exact lp_0 h
  | succ n1 ih1 =>
    intro s1 c0 d0 H locs ls hc0 hd0 hP hD hS hl h
    replace h := lp_s h
    unfold f_law_b1 at h
    refine lv_iload hx hb dL_law_27 (lv_at hl 0 rfl) ?_
    refine lv_aload_n hx hb dL_law_29 rfl (lv_at hl 4 rfl) ?_
    refine va_slen hx hb hX hbl hbA hS dL_law_30 ?_
    refine lv_iconst (v := (5 : Int32)) hx hb dL_law_31 (by decide) ?_
    refine lv_isub hx hb dL_law_32 ?_
    refine lv_icmp_gt (tgt := 1702) hx hb dL_law_33 (by decide) (fun q1 => ?_) (fun q1 => ?_)
    · replace h := ifp h q1
      refine lv_iconst (v := (1 : Int32)) hx hb dL_law_1702 (by decide) ?_
      refine va_forget (fun q hq => hS.2.2 q hq) ?_
      refine W.widen (k := 745887) (n := 6858442) (by omega) (by omega) ?_
      exact lw_ret (Drawn.sameBut.refl s.drawn lw_cs) hx hb hr hlocks dL_law_1703
    · replace h := ifn h q1
      refine lv_aload_n hx hb dL_law_36 rfl (lv_at hl 4 rfl) ?_
      refine lv_iload hx hb dL_law_37 (lv_at hl 0 rfl) ?_
      obtain ⟨g2, h⟩ := gd_e h
      refine va_sld hx hb hX hbl hbA hS (vin_in g2) dL_law_39 ?_
      refine lv_bipush (v := (31 : Int32)) hx hb dL_law_40 (by decide) ?_
      refine lv_iand hx hb dL_law_42 ?_
      by_cases q3 : ((xs (s1.1).toNatClampNeg) &&& (31 : Int32)) = (0 : Int32)
      · replace h := ifp h q3
        refine lv_tableIn (off := 113) (tgt := 156) hx hb dL_law_43 (by rw [q3]; decide) (by rw [q3]; decide) (by rw [q3]; rfl) (by decide) ?_
        exact law_c0 hst C1 a_x a_x_places a_x_halves a_x_powers a_x_glasses a_x_train a_x_single a_x_fan a_x_bending a_x_opening a_x_choice a_x_train_numbers a_x_train_places a_x_train_halves a_x_train_bends a_x_fan_ray a_x_fan_cuts a_m a_m_place a_m_half a_m_power a_m_glass a_o c0 d0 n1 hc0 hd0 s1 _ ih1 H locs ls hP hD hS hl h
      · replace h := ifn h q3
        by_cases q21 : ((xs (s1.1).toNatClampNeg) &&& (31 : Int32)) = (1 : Int32)
        · replace h := ifp h q21
          refine lv_tableIn (off := 206) (tgt := 249) hx hb dL_law_43 (by rw [q21]; decide) (by rw [q21]; decide) (by rw [q21]; rfl) (by decide) ?_
          exact law_c1 hst C1 a_x a_x_places a_x_halves a_x_powers a_x_glasses a_x_train a_x_single a_x_fan a_x_bending a_x_opening a_x_choice a_x_train_numbers a_x_train_places a_x_train_halves a_x_train_bends a_x_fan_ray a_x_fan_cuts a_m a_m_place a_m_half a_m_power a_m_glass a_o c0 d0 n1 hc0 hd0 s1 _ ih1 H locs ls hP hD hS hl h
        · replace h := ifn h q21
          by_cases q35 : ((xs (s1.1).toNatClampNeg) &&& (31 : Int32)) = (2 : Int32)
          · replace h := ifp h q35
            refine lv_tableIn (off := 275) (tgt := 318) hx hb dL_law_43 (by rw [q35]; decide) (by rw [q35]; decide) (by rw [q35]; rfl) (by decide) ?_
            exact law_c2 hst C1 a_x a_x_places a_x_halves a_x_powers a_x_glasses a_x_train a_x_single a_x_fan a_x_bending a_x_opening a_x_choice a_x_train_numbers a_x_train_places a_x_train_halves a_x_train_bends a_x_fan_ray a_x_fan_cuts a_m a_m_place a_m_half a_m_power a_m_glass a_o c0 d0 n1 hc0 hd0 s1 _ ih1 H locs ls hP hD hS hl h
          · replace h := ifn h q35
            by_cases q47 : ((xs (s1.1).toNatClampNeg) &&& (31 : Int32)) = (3 : Int32)
            · replace h := ifp h q47
              refine lv_tableIn (off := 332) (tgt := 375) hx hb dL_law_43 (by rw [q47]; decide) (by rw [q47]; decide) (by rw [q47]; rfl) (by decide) ?_
              exact law_c3 hst C1 a_x a_x_places a_x_halves a_x_powers a_x_glasses a_x_train a_x_single a_x_fan a_x_bending a_x_opening a_x_choice a_x_train_numbers a_x_train_places a_x_train_halves a_x_train_bends a_x_fan_ray a_x_fan_cuts a_m a_m_place a_m_half a_m_power a_m_glass a_o c0 d0 n1 hc0 hd0 s1 _ ih1 H locs ls hP hD hS hl h
            · replace h := ifn h q47
              by_cases q61 : ((xs (s1.1).toNatClampNeg) &&& (31 : Int32)) = (4 : Int32)
              · replace h := ifp h q61
                refine lv_tableIn (off := 401) (tgt := 444) hx hb dL_law_43 (by rw [q61]; decide) (by rw [q61]; decide) (by rw [q61]; rfl) (by decide) ?_
                exact law_c4 hst C1 a_x a_x_places a_x_halves a_x_powers a_x_glasses a_x_train a_x_single a_x_fan a_x_bending a_x_opening a_x_choice a_x_train_numbers a_x_train_places a_x_train_halves a_x_train_bends a_x_fan_ray a_x_fan_cuts a_m a_m_place a_m_half a_m_power a_m_glass a_o c0 d0 n1 hc0 hd0 s1 _ ih1 H locs ls hP hD hS hl h
              · replace h := ifn h q61
                by_cases q75 : ((xs (s1.1).toNatClampNeg) &&& (31 : Int32)) = (5 : Int32)
                · replace h := ifp h q75
                  refine lv_tableIn (off := 470) (tgt := 513) hx hb dL_law_43 (by rw [q75]; decide) (by rw [q75]; decide) (by rw [q75]; rfl) (by decide) ?_
                  exact law_c5 hst C1 a_x a_x_places a_x_halves a_x_powers a_x_glasses a_x_train a_x_single a_x_fan a_x_bending a_x_opening a_x_choice a_x_train_numbers a_x_train_places a_x_train_halves a_x_train_bends a_x_fan_ray a_x_fan_cuts a_m a_m_place a_m_half a_m_power a_m_glass a_o c0 d0 n1 hc0 hd0 s1 _ ih1 H locs ls hP hD hS hl h
                · replace h := ifn h q75
                  by_cases q89 : ((xs (s1.1).toNatClampNeg) &&& (31 : Int32)) = (6 : Int32)
                  · replace h := ifp h q89
                    refine lv_tableIn (off := 539) (tgt := 582) hx hb dL_law_43 (by rw [q89]; decide) (by rw [q89]; decide) (by rw [q89]; rfl) (by decide) ?_
                    exact law_c6 hst C1 a_x a_x_places a_x_halves a_x_powers a_x_glasses a_x_train a_x_single a_x_fan a_x_bending a_x_opening a_x_choice a_x_train_numbers a_x_train_places a_x_train_halves a_x_train_bends a_x_fan_ray a_x_fan_cuts a_m a_m_place a_m_half a_m_power a_m_glass a_o c0 d0 n1 hc0 hd0 s1 _ ih1 H locs ls hP hD hS hl h
                  · replace h := ifn h q89
                    by_cases q101 : ((xs (s1.1).toNatClampNeg) &&& (31 : Int32)) = (7 : Int32)
                    · replace h := ifp h q101
                      refine lv_tableIn (off := 596) (tgt := 639) hx hb dL_law_43 (by rw [q101]; decide) (by rw [q101]; decide) (by rw [q101]; rfl) (by decide) ?_
                      exact law_c7 hst C1 a_x a_x_places a_x_halves a_x_powers a_x_glasses a_x_train a_x_single a_x_fan a_x_bending a_x_opening a_x_choice a_x_train_numbers a_x_train_places a_x_train_halves a_x_train_bends a_x_fan_ray a_x_fan_cuts a_m a_m_place a_m_half a_m_power a_m_glass a_o c0 d0 n1 hc0 hd0 s1 _ ih1 H locs ls hP hD hS hl h
                    · replace h := ifn h q101
                      by_cases q113 : ((xs (s1.1).toNatClampNeg) &&& (31 : Int32)) = (8 : Int32)
                      · replace h := ifp h q113
                        refine lv_tableIn (off := 653) (tgt := 696) hx hb dL_law_43 (by rw [q113]; decide) (by rw [q113]; decide) (by rw [q113]; rfl) (by decide) ?_
                        exact law_c8 hst C1 a_x a_x_places a_x_halves a_x_powers a_x_glasses a_x_train a_x_single a_x_fan a_x_bending a_x_opening a_x_choice a_x_train_numbers a_x_train_places a_x_train_halves a_x_train_bends a_x_fan_ray a_x_fan_cuts a_m a_m_place a_m_half a_m_power a_m_glass a_o c0 d0 n1 hc0 hd0 s1 _ ih1 H locs ls hP hD hS hl h
                      · replace h := ifn h q113
                        by_cases q125 : ((xs (s1.1).toNatClampNeg) &&& (31 : Int32)) = (9 : Int32)
                        · replace h := ifp h q125
                          refine lv_tableIn (off := 710) (tgt := 753) hx hb dL_law_43 (by rw [q125]; decide) (by rw [q125]; decide) (by rw [q125]; rfl) (by decide) ?_
                          exact law_c9 hst C1 a_x a_x_places a_x_halves a_x_powers a_x_glasses a_x_train a_x_single a_x_fan a_x_bending a_x_opening a_x_choice a_x_train_numbers a_x_train_places a_x_train_halves a_x_train_bends a_x_fan_ray a_x_fan_cuts a_m a_m_place a_m_half a_m_power a_m_glass a_o c0 d0 n1 hc0 hd0 s1 _ ih1 H locs ls hP hD hS hl h
                        · replace h := ifn h q125
                          by_cases q131 : ((xs (s1.1).toNatClampNeg) &&& (31 : Int32)) = (10 : Int32)
                          · replace h := ifp h q131
                            refine lv_tableIn (off := 723) (tgt := 766) hx hb dL_law_43 (by rw [q131]; decide) (by rw [q131]; decide) (by rw [q131]; rfl) (by decide) ?_
                            exact law_c10 hst C1 a_x a_x_places a_x_halves a_x_powers a_x_glasses a_x_train a_x_single a_x_fan a_x_bending a_x_opening a_x_choice a_x_train_numbers a_x_train_places a_x_train_halves a_x_train_bends a_x_fan_ray a_x_fan_cuts a_m a_m_place a_m_half a_m_power a_m_glass a_o c0 d0 n1 hc0 hd0 s1 _ ih1 H locs ls hP hD hS hl h
                          · replace h := ifn h q131
                            by_cases q145 : ((xs (s1.1).toNatClampNeg) &&& (31 : Int32)) = (11 : Int32)
                            · replace h := ifp h q145
                              refine lv_tableIn (off := 792) (tgt := 835) hx hb dL_law_43 (by rw [q145]; decide) (by rw [q145]; decide) (by rw [q145]; rfl) (by decide) ?_
                              exact law_c11 hst C1 a_x a_x_places a_x_halves a_x_powers a_x_glasses a_x_train a_x_single a_x_fan a_x_bending a_x_opening a_x_choice a_x_train_numbers a_x_train_places a_x_train_halves a_x_train_bends a_x_fan_ray a_x_fan_cuts a_m a_m_place a_m_half a_m_power a_m_glass a_o c0 d0 n1 hc0 hd0 s1 _ ih1 H locs ls hP hD hS hl h
                            · replace h := ifn h q145
                              by_cases q161 : ((xs (s1.1).toNatClampNeg) &&& (31 : Int32)) = (12 : Int32)
                              · replace h := ifp h q161
                                refine lv_tableIn (off := 880) (tgt := 923) hx hb dL_law_43 (by rw [q161]; decide) (by rw [q161]; decide) (by rw [q161]; rfl) (by decide) ?_
                                exact law_c12 hst C1 a_x a_x_places a_x_halves a_x_powers a_x_glasses a_x_train a_x_single a_x_fan a_x_bending a_x_opening a_x_choice a_x_train_numbers a_x_train_places a_x_train_halves a_x_train_bends a_x_fan_ray a_x_fan_cuts a_m a_m_place a_m_half a_m_power a_m_glass a_o c0 d0 n1 hc0 hd0 s1 _ ih1 H locs ls hP hD hS hl h
                              · replace h := ifn h q161
                                by_cases q181 : ((xs (s1.1).toNatClampNeg) &&& (31 : Int32)) = (13 : Int32)
                                · replace h := ifp h q181
                                  refine lv_tableIn (off := 992) (tgt := 1035) hx hb dL_law_43 (by rw [q181]; decide) (by rw [q181]; decide) (by rw [q181]; rfl) (by decide) ?_
                                  exact law_c13 hst C1 a_x a_x_places a_x_halves a_x_powers a_x_glasses a_x_train a_x_single a_x_fan a_x_bending a_x_opening a_x_choice a_x_train_numbers a_x_train_places a_x_train_halves a_x_train_bends a_x_fan_ray a_x_fan_cuts a_m a_m_place a_m_half a_m_power a_m_glass a_o c0 d0 n1 hc0 hd0 s1 _ ih1 H locs ls hP hD hS hl h
                                · replace h := ifn h q181
                                  by_cases q197 : ((xs (s1.1).toNatClampNeg) &&& (31 : Int32)) = (14 : Int32)
                                  · replace h := ifp h q197
                                    refine lv_tableIn (off := 1080) (tgt := 1123) hx hb dL_law_43 (by rw [q197]; decide) (by rw [q197]; decide) (by rw [q197]; rfl) (by decide) ?_
                                    exact law_c14 hst C1 a_x a_x_places a_x_halves a_x_powers a_x_glasses a_x_train a_x_single a_x_fan a_x_bending a_x_opening a_x_choice a_x_train_numbers a_x_train_places a_x_train_halves a_x_train_bends a_x_fan_ray a_x_fan_cuts a_m a_m_place a_m_half a_m_power a_m_glass a_o c0 d0 n1 hc0 hd0 s1 _ ih1 H locs ls hP hD hS hl h
                                  · replace h := ifn h q197
                                    by_cases q213 : ((xs (s1.1).toNatClampNeg) &&& (31 : Int32)) = (15 : Int32)
                                    · replace h := ifp h q213
                                      refine lv_tableIn (off := 1168) (tgt := 1211) hx hb dL_law_43 (by rw [q213]; decide) (by rw [q213]; decide) (by rw [q213]; rfl) (by decide) ?_
                                      exact law_c15 hst C1 a_x a_x_places a_x_halves a_x_powers a_x_glasses a_x_train a_x_single a_x_fan a_x_bending a_x_opening a_x_choice a_x_train_numbers a_x_train_places a_x_train_halves a_x_train_bends a_x_fan_ray a_x_fan_cuts a_m a_m_place a_m_half a_m_power a_m_glass a_o c0 d0 n1 hc0 hd0 s1 _ ih1 H locs ls hP hD hS hl h
                                    · replace h := ifn h q213
                                      by_cases q225 : ((xs (s1.1).toNatClampNeg) &&& (31 : Int32)) = (16 : Int32)
                                      · replace h := ifp h q225
                                        refine lv_tableIn (off := 1225) (tgt := 1268) hx hb dL_law_43 (by rw [q225]; decide) (by rw [q225]; decide) (by rw [q225]; rfl) (by decide) ?_
                                        exact law_c16 hst C1 a_x a_x_places a_x_halves a_x_powers a_x_glasses a_x_train a_x_single a_x_fan a_x_bending a_x_opening a_x_choice a_x_train_numbers a_x_train_places a_x_train_halves a_x_train_bends a_x_fan_ray a_x_fan_cuts a_m a_m_place a_m_half a_m_power a_m_glass a_o c0 d0 n1 hc0 hd0 s1 _ ih1 H locs ls hP hD hS hl h
                                      · replace h := ifn h q225
                                        by_cases q237 : ((xs (s1.1).toNatClampNeg) &&& (31 : Int32)) = (17 : Int32)
                                        · replace h := ifp h q237
                                          refine lv_tableIn (off := 1282) (tgt := 1325) hx hb dL_law_43 (by rw [q237]; decide) (by rw [q237]; decide) (by rw [q237]; rfl) (by decide) ?_
                                          exact law_c17 hst C1 a_x a_x_places a_x_halves a_x_powers a_x_glasses a_x_train a_x_single a_x_fan a_x_bending a_x_opening a_x_choice a_x_train_numbers a_x_train_places a_x_train_halves a_x_train_bends a_x_fan_ray a_x_fan_cuts a_m a_m_place a_m_half a_m_power a_m_glass a_o c0 d0 n1 hc0 hd0 s1 _ ih1 H locs ls hP hD hS hl h
                                        · replace h := ifn h q237
                                          by_cases q245 : ((xs (s1.1).toNatClampNeg) &&& (31 : Int32)) = (18 : Int32)
                                          · replace h := ifp h q245
                                            refine lv_tableIn (off := 1298) (tgt := 1341) hx hb dL_law_43 (by rw [q245]; decide) (by rw [q245]; decide) (by rw [q245]; rfl) (by decide) ?_
                                            exact law_c18 hst C1 a_x a_x_places a_x_halves a_x_powers a_x_glasses a_x_train a_x_single a_x_fan a_x_bending a_x_opening a_x_choice a_x_train_numbers a_x_train_places a_x_train_halves a_x_train_bends a_x_fan_ray a_x_fan_cuts a_m a_m_place a_m_half a_m_power a_m_glass a_o c0 d0 n1 hc0 hd0 s1 _ ih1 H locs ls hP hD hS hl h
                                          · replace h := ifn h q245
                                            by_cases q253 : ((xs (s1.1).toNatClampNeg) &&& (31 : Int32)) = (19 : Int32)
                                            · replace h := ifp h q253
                                              refine lv_tableIn (off := 1339) (tgt := 1382) hx hb dL_law_43 (by rw [q253]; decide) (by rw [q253]; decide) (by rw [q253]; rfl) (by decide) ?_
                                              exact law_c19 hst C1 a_x a_x_places a_x_halves a_x_powers a_x_glasses a_x_train a_x_single a_x_fan a_x_bending a_x_opening a_x_choice a_x_train_numbers a_x_train_places a_x_train_halves a_x_train_bends a_x_fan_ray a_x_fan_cuts a_m a_m_place a_m_half a_m_power a_m_glass a_o c0 d0 n1 hc0 hd0 s1 _ ih1 H locs ls hP hD hS hl h
                                            · replace h := ifn h q253
                                              by_cases q267 : ((xs (s1.1).toNatClampNeg) &&& (31 : Int32)) = (20 : Int32)
                                              · replace h := ifp h q267
                                                refine lv_tableIn (off := 1415) (tgt := 1458) hx hb dL_law_43 (by rw [q267]; decide) (by rw [q267]; decide) (by rw [q267]; rfl) (by decide) ?_
                                                exact law_c20 hst C1 a_x a_x_places a_x_halves a_x_powers a_x_glasses a_x_train a_x_single a_x_fan a_x_bending a_x_opening a_x_choice a_x_train_numbers a_x_train_places a_x_train_halves a_x_train_bends a_x_fan_ray a_x_fan_cuts a_m a_m_place a_m_half a_m_power a_m_glass a_o c0 d0 n1 hc0 hd0 s1 _ ih1 H locs ls hP hD hS hl h
                                              · replace h := ifn h q267
                                                by_cases q275 : ((xs (s1.1).toNatClampNeg) &&& (31 : Int32)) = (21 : Int32)
                                                · replace h := ifp h q275
                                                  refine lv_tableIn (off := 1456) (tgt := 1499) hx hb dL_law_43 (by rw [q275]; decide) (by rw [q275]; decide) (by rw [q275]; rfl) (by decide) ?_
                                                  exact law_c21 hst C1 a_x a_x_places a_x_halves a_x_powers a_x_glasses a_x_train a_x_single a_x_fan a_x_bending a_x_opening a_x_choice a_x_train_numbers a_x_train_places a_x_train_halves a_x_train_bends a_x_fan_ray a_x_fan_cuts a_m a_m_place a_m_half a_m_power a_m_glass a_o c0 d0 n1 hc0 hd0 s1 _ ih1 H locs ls hP hD hS hl h
                                                · replace h := ifn h q275
                                                  by_cases q287 : ((xs (s1.1).toNatClampNeg) &&& (31 : Int32)) = (22 : Int32)
                                                  · replace h := ifp h q287
                                                    refine lv_tableIn (off := 1513) (tgt := 1556) hx hb dL_law_43 (by rw [q287]; decide) (by rw [q287]; decide) (by rw [q287]; rfl) (by decide) ?_
                                                    exact law_c22 hst C1 a_x a_x_places a_x_halves a_x_powers a_x_glasses a_x_train a_x_single a_x_fan a_x_bending a_x_opening a_x_choice a_x_train_numbers a_x_train_places a_x_train_halves a_x_train_bends a_x_fan_ray a_x_fan_cuts a_m a_m_place a_m_half a_m_power a_m_glass a_o c0 d0 n1 hc0 hd0 s1 _ ih1 H locs ls hP hD hS hl h
                                                  · replace h := ifn h q287
                                                    by_cases q301 : ((xs (s1.1).toNatClampNeg) &&& (31 : Int32)) = (23 : Int32)
                                                    · replace h := ifp h q301
                                                      refine lv_tableIn (off := 1582) (tgt := 1625) hx hb dL_law_43 (by rw [q301]; decide) (by rw [q301]; decide) (by rw [q301]; rfl) (by decide) ?_
                                                      exact law_c23 hst C1 a_x a_x_places a_x_halves a_x_powers a_x_glasses a_x_train a_x_single a_x_fan a_x_bending a_x_opening a_x_choice a_x_train_numbers a_x_train_places a_x_train_halves a_x_train_bends a_x_fan_ray a_x_fan_cuts a_m a_m_place a_m_half a_m_power a_m_glass a_o c0 d0 n1 hc0 hd0 s1 _ ih1 H locs ls hP hD hS hl h
                                                    · replace h := ifn h q301
                                                      by_cases q313 : ((xs (s1.1).toNatClampNeg) &&& (31 : Int32)) = (24 : Int32)
                                                      · replace h := ifp h q313
                                                        refine lv_tableIn (off := 1639) (tgt := 1682) hx hb dL_law_43 (by rw [q313]; decide) (by rw [q313]; decide) (by rw [q313]; rfl) (by decide) ?_
                                                        exact law_c24 hst C1 a_x a_x_places a_x_halves a_x_powers a_x_glasses a_x_train a_x_single a_x_fan a_x_bending a_x_opening a_x_choice a_x_train_numbers a_x_train_places a_x_train_halves a_x_train_bends a_x_fan_ray a_x_fan_cuts a_m a_m_place a_m_half a_m_power a_m_glass a_o c0 d0 n1 hc0 hd0 s1 _ ih1 H locs ls hP hD hS hl h
                                                      · replace h := ifn h q313
                                                        have tq3 := lv_neT q3 (show ((0 : Int32)).toInt = 0 from rfl)
                                                        have tq21 := lv_neT q21 (show ((1 : Int32)).toInt = 1 from rfl)
                                                        have tq35 := lv_neT q35 (show ((2 : Int32)).toInt = 2 from rfl)
                                                        have tq47 := lv_neT q47 (show ((3 : Int32)).toInt = 3 from rfl)
                                                        have tq61 := lv_neT q61 (show ((4 : Int32)).toInt = 4 from rfl)
                                                        have tq75 := lv_neT q75 (show ((5 : Int32)).toInt = 5 from rfl)
                                                        have tq89 := lv_neT q89 (show ((6 : Int32)).toInt = 6 from rfl)
                                                        have tq101 := lv_neT q101 (show ((7 : Int32)).toInt = 7 from rfl)
                                                        have tq113 := lv_neT q113 (show ((8 : Int32)).toInt = 8 from rfl)
                                                        have tq125 := lv_neT q125 (show ((9 : Int32)).toInt = 9 from rfl)
                                                        have tq131 := lv_neT q131 (show ((10 : Int32)).toInt = 10 from rfl)
                                                        have tq145 := lv_neT q145 (show ((11 : Int32)).toInt = 11 from rfl)
                                                        have tq161 := lv_neT q161 (show ((12 : Int32)).toInt = 12 from rfl)
                                                        have tq181 := lv_neT q181 (show ((13 : Int32)).toInt = 13 from rfl)
                                                        have tq197 := lv_neT q197 (show ((14 : Int32)).toInt = 14 from rfl)
                                                        have tq213 := lv_neT q213 (show ((15 : Int32)).toInt = 15 from rfl)
                                                        have tq225 := lv_neT q225 (show ((16 : Int32)).toInt = 16 from rfl)
                                                        have tq237 := lv_neT q237 (show ((17 : Int32)).toInt = 17 from rfl)
                                                        have tq245 := lv_neT q245 (show ((18 : Int32)).toInt = 18 from rfl)
                                                        have tq253 := lv_neT q253 (show ((19 : Int32)).toInt = 19 from rfl)
                                                        have tq267 := lv_neT q267 (show ((20 : Int32)).toInt = 20 from rfl)
                                                        have tq275 := lv_neT q275 (show ((21 : Int32)).toInt = 21 from rfl)
                                                        have tq287 := lv_neT q287 (show ((22 : Int32)).toInt = 22 from rfl)
                                                        have tq301 := lv_neT q301 (show ((23 : Int32)).toInt = 23 from rfl)
                                                        have tq313 := lv_neT q313 (show ((24 : Int32)).toInt = 24 from rfl)
                                                        refine lv_tableOut (tgt := 1696) hx hb dL_law_43 (by omega) (by decide) ?_
                                                        refine lv_iinc (v := (s1.1 + (5 : Int32))) (lv' := [(4, .int (s1.1 + (5 : Int32))), (3, .ref a_o), (2, .ref a_m), (1, .ref a_x), (0, .ref b)]) hx hb dL_law_1696 hl (k := 0) rfl rfl (by decide) rfl (fun ls hl => ?_)
                                                        refine lv_goto (tgt := 27) hx hb dL_law_1699 (by decide) ?_
                                                        exact ih1 ((s1.1 + (5 : Int32)), s1.2.1, s1.2.2.1, s1.2.2.2.1, s1.2.2.2.2.1, s1.2.2.2.2.2.1, s1.2.2.2.2.2.2.1, s1.2.2.2.2.2.2.2.1, s1.2.2.2.2.2.2.2.2.1, s1.2.2.2.2.2.2.2.2.2.1, s1.2.2.2.2.2.2.2.2.2.2.1, s1.2.2.2.2.2.2.2.2.2.2.2.1, s1.2.2.2.2.2.2.2.2.2.2.2.2.1, s1.2.2.2.2.2.2.2.2.2.2.2.2.2.1, s1.2.2.2.2.2.2.2.2.2.2.2.2.2.2.1, s1.2.2.2.2.2.2.2.2.2.2.2.2.2.2.2.1, s1.2.2.2.2.2.2.2.2.2.2.2.2.2.2.2.2.1, s1.2.2.2.2.2.2.2.2.2.2.2.2.2.2.2.2.2.1, s1.2.2.2.2.2.2.2.2.2.2.2.2.2.2.2.2.2.2.1, s1.2.2.2.2.2.2.2.2.2.2.2.2.2.2.2.2.2.2.2.1, s1.2.2.2.2.2.2.2.2.2.2.2.2.2.2.2.2.2.2.2.2.1, s1.2.2.2.2.2.2.2.2.2.2.2.2.2.2.2.2.2.2.2.2.2.1, s1.2.2.2.2.2.2.2.2.2.2.2.2.2.2.2.2.2.2.2.2.2.2.1, s1.2.2.2.2.2.2.2.2.2.2.2.2.2.2.2.2.2.2.2.2.2.2.2.1, s1.2.2.2.2.2.2.2.2.2.2.2.2.2.2.2.2.2.2.2.2.2.2.2.2.1, s1.2.2.2.2.2.2.2.2.2.2.2.2.2.2.2.2.2.2.2.2.2.2.2.2.2.1, s1.2.2.2.2.2.2.2.2.2.2.2.2.2.2.2.2.2.2.2.2.2.2.2.2.2.2.1, s1.2.2.2.2.2.2.2.2.2.2.2.2.2.2.2.2.2.2.2.2.2.2.2.2.2.2.2.1, s1.2.2.2.2.2.2.2.2.2.2.2.2.2.2.2.2.2.2.2.2.2.2.2.2.2.2.2.2.1, s1.2.2.2.2.2.2.2.2.2.2.2.2.2.2.2.2.2.2.2.2.2.2.2.2.2.2.2.2.2.1, s1.2.2.2.2.2.2.2.2.2.2.2.2.2.2.2.2.2.2.2.2.2.2.2.2.2.2.2.2.2.2.1, s1.2.2.2.2.2.2.2.2.2.2.2.2.2.2.2.2.2.2.2.2.2.2.2.2.2.2.2.2.2.2.2.1, s1.2.2.2.2.2.2.2.2.2.2.2.2.2.2.2.2.2.2.2.2.2.2.2.2.2.2.2.2.2.2.2.2.1, s1.2.2.2.2.2.2.2.2.2.2.2.2.2.2.2.2.2.2.2.2.2.2.2.2.2.2.2.2.2.2.2.2.2.1, s1.2.2.2.2.2.2.2.2.2.2.2.2.2.2.2.2.2.2.2.2.2.2.2.2.2.2.2.2.2.2.2.2.2.2.1, s1.2.2.2.2.2.2.2.2.2.2.2.2.2.2.2.2.2.2.2.2.2.2.2.2.2.2.2.2.2.2.2.2.2.2.2.1, s1.2.2.2.2.2.2.2.2.2.2.2.2.2.2.2.2.2.2.2.2.2.2.2.2.2.2.2.2.2.2.2.2.2.2.2.2.1, s1.2.2.2.2.2.2.2.2.2.2.2.2.2.2.2.2.2.2.2.2.2.2.2.2.2.2.2.2.2.2.2.2.2.2.2.2.2.1, s1.2.2.2.2.2.2.2.2.2.2.2.2.2.2.2.2.2.2.2.2.2.2.2.2.2.2.2.2.2.2.2.2.2.2.2.2.2.2.1, s1.2.2.2.2.2.2.2.2.2.2.2.2.2.2.2.2.2.2.2.2.2.2.2.2.2.2.2.2.2.2.2.2.2.2.2.2.2.2.2.1, s1.2.2.2.2.2.2.2.2.2.2.2.2.2.2.2.2.2.2.2.2.2.2.2.2.2.2.2.2.2.2.2.2.2.2.2.2.2.2.2.2.1, s1.2.2.2.2.2.2.2.2.2.2.2.2.2.2.2.2.2.2.2.2.2.2.2.2.2.2.2.2.2.2.2.2.2.2.2.2.2.2.2.2.2.1, s1.2.2.2.2.2.2.2.2.2.2.2.2.2.2.2.2.2.2.2.2.2.2.2.2.2.2.2.2.2.2.2.2.2.2.2.2.2.2.2.2.2.2.1, s1.2.2.2.2.2.2.2.2.2.2.2.2.2.2.2.2.2.2.2.2.2.2.2.2.2.2.2.2.2.2.2.2.2.2.2.2.2.2.2.2.2.2.2.1, s1.2.2.2.2.2.2.2.2.2.2.2.2.2.2.2.2.2.2.2.2.2.2.2.2.2.2.2.2.2.2.2.2.2.2.2.2.2.2.2.2.2.2.2.2.1, s1.2.2.2.2.2.2.2.2.2.2.2.2.2.2.2.2.2.2.2.2.2.2.2.2.2.2.2.2.2.2.2.2.2.2.2.2.2.2.2.2.2.2.2.2.2.1, s1.2.2.2.2.2.2.2.2.2.2.2.2.2.2.2.2.2.2.2.2.2.2.2.2.2.2.2.2.2.2.2.2.2.2.2.2.2.2.2.2.2.2.2.2.2.2.1, s1.2.2.2.2.2.2.2.2.2.2.2.2.2.2.2.2.2.2.2.2.2.2.2.2.2.2.2.2.2.2.2.2.2.2.2.2.2.2.2.2.2.2.2.2.2.2.2.1, s1.2.2.2.2.2.2.2.2.2.2.2.2.2.2.2.2.2.2.2.2.2.2.2.2.2.2.2.2.2.2.2.2.2.2.2.2.2.2.2.2.2.2.2.2.2.2.2.2.1, s1.2.2.2.2.2.2.2.2.2.2.2.2.2.2.2.2.2.2.2.2.2.2.2.2.2.2.2.2.2.2.2.2.2.2.2.2.2.2.2.2.2.2.2.2.2.2.2.2.2.1, s1.2.2.2.2.2.2.2.2.2.2.2.2.2.2.2.2.2.2.2.2.2.2.2.2.2.2.2.2.2.2.2.2.2.2.2.2.2.2.2.2.2.2.2.2.2.2.2.2.2.2) _ _ _ _ _ (by omega) (by omega) hP hD hS (lv_sub hl [0, 1, 2, 3, 4] rfl) h
