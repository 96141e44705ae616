theorem mc_X6_half_X6 : ∀ w ∈ wsX60, w ∈ wsX6_half := by decide +kernel
theorem mf_X6_half_13 : Cond.fieldLink RX6 13 "Lensbench" "halves" "[I" ∈ wsX6_half := by decide +kernel
abbrev rm_X6_half : Room := { frames := 2, cells := 0, slots := 0, locals := 42 }
set_option maxHeartbeats 4000000 in
set_option maxRecDepth 100000 in
theorem m_X6_half (l : Launch) (D : va_G) (cI cD cB : ClassId) (a_t : Nat) (a_t_places : Nat) (a_t_halves : Nat) (a_t_powers : Nat) (a_t_glasses : Nat) (a_t_train : Nat) (a_t_single : Nat) (a_t_fan : Nat) (a_t_bending : Nat) (a_t_opening : Nat) (a_t_choice : Nat) (p1 : Int32) (p2 : Int32) (c_t_count : Int32) (c_t_thingPlace : Int32) (c_t_screenPlace : Int32) (c_t_quarters : Int32) (c_t_refused : Int32) (c_t_halves : Nat → Int32) (R : Int32 × (Nat → Int32)) (h : f_X6_half p1 p2 c_t_count c_t_halves = some (.inr R)) : Ci l yX6_half wsX6_half rm_X6_half D (TT cI cD cB) [.ref a_t, .int p1, .int p2] [(a_t, .inr (8, [.ref a_t_places, .ref a_t_halves, .ref a_t_powers, .ref a_t_glasses, .int c_t_count, .int c_t_thingPlace, .int c_t_screenPlace, .int c_t_quarters, .int c_t_refused, .ref a_t_train, .ref a_t_single, .ref a_t_fan, .ref a_t_bending, .ref a_t_opening, .ref a_t_choice])), (a_t_halves, .inl (cI, 8, .inl c_t_halves))] [(a_t, .inr (8, [.ref a_t_places, .ref a_t_halves, .ref a_t_powers, .ref a_t_glasses, .int c_t_count, .int c_t_thingPlace, .int c_t_screenPlace, .int c_t_quarters, .int c_t_refused, .ref a_t_train, .ref a_t_single, .ref a_t_fan, .ref a_t_bending, .ref a_t_opening, .ref a_t_choice])), (a_t_halves, .inl (cI, 8, .inl R.2))] R.1 0 0 := by
  unfold f_X6_half at h
  refine st_i (cc := cX6_half) (maxL := 4) (by decide) rfl (Nat.le_of_ble_eq_true rfl) (fun p e s m av below meth c A Q ls hx hb hml hts hown hA hK hNM hZ hP hD hS hl hfin => ?_)
  have hown : s.vm.findClass RX6 = some m.cls := hown
  have hl : lv_has ls 4 [(0, .ref a_t), (1, .int p1), (2, .int p2)] := hl
  refine lv_aload_n hx hb dX6_half_0 rfl (lv_at hl 0 rfl) ?_
  refine lv_iload_n hx hb dX6_half_1 rfl (lv_at hl 1 rfl) ?_
  obtain ⟨o1, e2, h⟩ := bx_r h
  refine co_v (W0 := [(a_t, .inr (8, [.ref a_t_places, .ref a_t_halves, .ref a_t_powers, .ref a_t_glasses, .int c_t_count, .int c_t_thingPlace, .int c_t_screenPlace, .int c_t_quarters, .int c_t_refused, .ref a_t_train, .ref a_t_single, .ref a_t_fan, .ref a_t_bending, .ref a_t_opening, .ref a_t_choice]))]) (wr := [(a_t_halves, .inl (cI, 8, .inl c_t_halves))]) (W1 := [(a_t, .inr (8, [.ref a_t_places, .ref a_t_halves, .ref a_t_powers, .ref a_t_glasses, .int c_t_count, .int c_t_thingPlace, .int c_t_screenPlace, .int c_t_quarters, .int c_t_refused, .ref a_t_train, .ref a_t_single, .ref a_t_fan, .ref a_t_bending, .ref a_t_opening, .ref a_t_choice]))]) (ws2 := [(a_t, .inr (8, [.ref a_t_places, .ref a_t_halves, .ref a_t_powers, .ref a_t_glasses, .int c_t_count, .int c_t_thingPlace, .int c_t_screenPlace, .int c_t_quarters, .int c_t_refused, .ref a_t_train, .ref a_t_single, .ref a_t_fan, .ref a_t_bending, .ref a_t_opening, .ref a_t_choice])), (a_t_halves, .inl (cI, 8, .inl c_t_halves))]) (va_runV (C := RX6) (As := [.int p1]) (rest := []) ⟨hx, hb, hml, hown, hts⟩ (m_X6_needPiece l D cI cD cB a_t a_t_places a_t_halves a_t_powers a_t_glasses a_t_train a_t_single a_t_fan a_t_bending a_t_opening a_t_choice p1 c_t_count c_t_thingPlace c_t_screenPlace c_t_quarters c_t_refused o1 e2 _) (cwV 1 hts gX6_half_X6_needPiece rfl rfl rfl (by decide +kernel) ⟨Nat.le_of_ble_eq_true rfl, Nat.le_of_ble_eq_true rfl⟩) (my_preV (q := (RX6, TX6, 15)) (ci := 8) (q0 := 0) [0] hP hK hNM hZ hD hS hA rfl rfl rfl rfl) rfl rfl hl.1 rfl (lv_room (Nat.le_of_ble_eq_true rfl)) dX6_half_2 ⟨Nat.zero_le _, Nat.zero_le _⟩) hP hD hS hA [0] [1] [1, 0] rfl rfl rfl rfl rfl (by decide) (fun H locs hP hD hS => ?_)
  refine lv_iload_n hx hb dX6_half_5 rfl (lv_at hl 2 rfl) ?_
  obtain ⟨o3, e4, h⟩ := bx_r h
  refine co_v (W0 := []) (wr := [(a_t, .inr (8, [.ref a_t_places, .ref a_t_halves, .ref a_t_powers, .ref a_t_glasses, .int c_t_count, .int c_t_thingPlace, .int c_t_screenPlace, .int c_t_quarters, .int c_t_refused, .ref a_t_train, .ref a_t_single, .ref a_t_fan, .ref a_t_bending, .ref a_t_opening, .ref a_t_choice])), (a_t_halves, .inl (cI, 8, .inl c_t_halves))]) (W1 := []) (ws2 := [(a_t, .inr (8, [.ref a_t_places, .ref a_t_halves, .ref a_t_powers, .ref a_t_glasses, .int c_t_count, .int c_t_thingPlace, .int c_t_screenPlace, .int c_t_quarters, .int c_t_refused, .ref a_t_train, .ref a_t_single, .ref a_t_fan, .ref a_t_bending, .ref a_t_opening, .ref a_t_choice])), (a_t_halves, .inl (cI, 8, .inl c_t_halves))]) (va_runS (As := [.int p2]) (rest := []) ⟨hx, hb, hml, hown, hts⟩ (m_X6_needHalf l D cI cD cB p2 o3 e4 _) (va_cwS 1 hts gX6_half_X6_needHalf rfl rfl rfl (by decide +kernel) ⟨Nat.le_of_ble_eq_true rfl, Nat.le_of_ble_eq_true rfl⟩) (my_preS [] hP hK hNM hZ hD hS hA rfl rfl) rfl rfl hl.1 rfl (lv_room (Nat.le_of_ble_eq_true rfl)) dX6_half_6 ⟨Nat.zero_le _, Nat.zero_le _⟩) hP hD hS hA [] [0, 1] [0, 1] rfl rfl rfl rfl rfl (by decide) (fun H locs hP hD hS => ?_)
  refine lv_aload_n hx hb dX6_half_9 rfl (lv_at hl 0 rfl) ?_
  refine va_get (D := D) (ci := 8) (v := .ref a_t_halves) (C := RX6) (T := TX6) (N := 15) hx hb hts mc_X6_half_X6 hown hK hP 0 rfl rfl 1 (by decide) (hts _ mf_X6_half_13) (fun _ h9 => h9) rfl dX6_half_10 ?_
  refine lv_iload_n hx hb dX6_half_13 rfl (lv_at hl 1 rfl) ?_
  obtain ⟨g5, h⟩ := gd_e h
  refine va_iald hx hb hK hP 1 0 rfl rfl (vin_in g5) dX6_half_14 ?_
  refine lv_istore_n (lv' := [(3, .int (c_t_halves (p1).toNatClampNeg)), (0, .ref a_t), (1, .int p1), (2, .int p2)]) hx hb dX6_half_15 rfl hl (by decide) rfl (fun ls hl => ?_)
  refine lv_aload_n hx hb dX6_half_16 rfl (lv_at hl 1 rfl) ?_
  refine va_get (D := D) (ci := 8) (v := .ref a_t_halves) (C := RX6) (T := TX6) (N := 15) hx hb hts mc_X6_half_X6 hown hK hP 0 rfl rfl 1 (by decide) (hts _ mf_X6_half_13) (fun _ h9 => h9) rfl dX6_half_17 ?_
  refine lv_iload_n hx hb dX6_half_20 rfl (lv_at hl 2 rfl) ?_
  refine lv_iload_n hx hb dX6_half_21 rfl (lv_at hl 3 rfl) ?_
  obtain ⟨g6, h⟩ := gd_e h
  refine va_iast hx hb hK hP hD hS 1 0 rfl rfl (vin_in g6) dX6_half_22 (fun H locs hP hD hS => ?_)
  have hP : va_P D vwCl [(a_t, .inr (8, [.ref a_t_places, .ref a_t_halves, .ref a_t_powers, .ref a_t_glasses, .int c_t_count, .int c_t_thingPlace, .int c_t_screenPlace, .int c_t_quarters, .int c_t_refused, .ref a_t_train, .ref a_t_single, .ref a_t_fan, .ref a_t_bending, .ref a_t_opening, .ref a_t_choice])), (a_t_halves, .inl (cI, 8, .inl (upd c_t_halves (p1).toNatClampNeg p2)))] H := hP
  have hD : va_D A [(a_t, .inr (8, [.ref a_t_places, .ref a_t_halves, .ref a_t_powers, .ref a_t_glasses, .int c_t_count, .int c_t_thingPlace, .int c_t_screenPlace, .int c_t_quarters, .int c_t_refused, .ref a_t_train, .ref a_t_single, .ref a_t_fan, .ref a_t_bending, .ref a_t_opening, .ref a_t_choice])), (a_t_halves, .inl (cI, 8, .inl (upd c_t_halves (p1).toNatClampNeg p2)))] := hD
  refine lv_iload_n hx hb dX6_half_23 rfl (lv_at hl 0 rfl) ?_
  rw [← inr_e h] at hfin
  exact hfin 24 _ _ _ dX6_half_24 rfl hP hD hS
abbrev rm_X6_needPlace : Room := { frames := 0, cells := 0, slots := 0, locals := 0 }
set_option maxHeartbeats 4000000 in
set_option maxRecDepth 100000 in
theorem m_X6_needPlace (l : Launch) (D : va_G) (cI cD cB : ClassId) (p1 : Int32) (R : Unit) (h : f_X6_needPlace p1 = some (.inr R)) : Cv l yX6_needPlace wsX6_needPlace rm_X6_needPlace D (TT cI cD cB) [.int p1] [] [] 0 0 := by
  unfold f_X6_needPlace at h
  refine st_v (cc := cX6_needPlace) (maxL := 1) (by decide) rfl (Nat.le_of_ble_eq_true rfl) (fun p e s m av below meth c A Q ls hx hb hml hts hown hA hK hNM hZ hP hD hS hl hfin => ?_)
  have hown : s.vm.findClass RX6 = some m.cls := hown
  have hl : lv_has ls 1 [(0, .int p1)] := hl
  refine lv_iload_n hx hb dX6_needPlace_0 rfl (lv_at hl 0 rfl) ?_
  refine lv_if_lt (tgt := 10) hx hb dX6_needPlace_1 (by decide) (fun q1 => ?_) (fun q1 => ?_)
  · replace h := ifp h q1
    cases h
  · replace h := ifn h q1
    refine lv_iload_n hx hb dX6_needPlace_4 rfl (lv_at hl 0 rfl) ?_
    refine lv_bipush (v := (99 : Int32)) hx hb dX6_needPlace_5 (by decide) ?_
    refine lv_icmp_le (tgt := 21) hx hb dX6_needPlace_7 (by decide) (fun q2 => ?_) (fun q2 => ?_)
    · replace h := ifp h q2
      exact hfin 21 _ _ _ dX6_needPlace_21 hP hD hS
    · replace h := ifn h q2
      cases h
theorem mc_X6_put_X6 : ∀ w ∈ wsX60, w ∈ wsX6_put := by decide +kernel
theorem mf_X6_put_13 : Cond.fieldLink RX6 13 "Lensbench" "halves" "[I" ∈ wsX6_put := by decide +kernel
theorem mf_X6_put_16 : Cond.fieldLink RX6 16 "Lensbench" "powers" "[I" ∈ wsX6_put := by decide +kernel
theorem mf_X6_put_19 : Cond.fieldLink RX6 19 "Lensbench" "glasses" "[I" ∈ wsX6_put := by decide +kernel
theorem mf_X6_put_9 : Cond.fieldLink RX6 9 "Lensbench" "places" "[I" ∈ wsX6_put := by decide +kernel
theorem mf_X6_put_94 : Cond.fieldLink RX6 94 "Lensbench" "count" "I" ∈ wsX6_put := by decide +kernel
abbrev rm_X6_put : Room := { frames := 1, cells := 0, slots := 0, locals := 23 }
set_option maxHeartbeats 4000000 in
set_option maxRecDepth 100000 in
theorem m_X6_put (l : Launch) (D : va_G) (cI cD cB : ClassId) (a_t : Nat) (a_t_places : Nat) (a_t_halves : Nat) (a_t_powers : Nat) (a_t_glasses : Nat) (a_t_train : Nat) (a_t_single : Nat) (a_t_fan : Nat) (a_t_bending : Nat) (a_t_opening : Nat) (a_t_choice : Nat) (p1 : Int32) (p2 : Int32) (p3 : Int32) (p4 : Int32) (c_t_count : Int32) (c_t_thingPlace : Int32) (c_t_screenPlace : Int32) (c_t_quarters : Int32) (c_t_refused : Int32) (c_t_places : Nat → Int32) (c_t_halves : Nat → Int32) (c_t_powers : Nat → Int32) (c_t_glasses : Nat → Int32) (R : Int32 × Int32 × (Nat → Int32) × (Nat → Int32) × (Nat → Int32) × (Nat → Int32)) (h : f_X6_put p1 p2 p3 p4 c_t_count c_t_places c_t_halves c_t_powers c_t_glasses = some (.inr R)) : Ci l yX6_put wsX6_put rm_X6_put D (TT cI cD cB) [.ref a_t, .int p1, .int p2, .int p3, .int p4] [(a_t, .inr (8, [.ref a_t_places, .ref a_t_halves, .ref a_t_powers, .ref a_t_glasses, .int c_t_count, .int c_t_thingPlace, .int c_t_screenPlace, .int c_t_quarters, .int c_t_refused, .ref a_t_train, .ref a_t_single, .ref a_t_fan, .ref a_t_bending, .ref a_t_opening, .ref a_t_choice])), (a_t_places, .inl (cI, 8, .inl c_t_places)), (a_t_halves, .inl (cI, 8, .inl c_t_halves)), (a_t_powers, .inl (cI, 8, .inl c_t_powers)), (a_t_glasses, .inl (cI, 8, .inl c_t_glasses))] [(a_t, .inr (8, [.ref a_t_places, .ref a_t_halves, .ref a_t_powers, .ref a_t_glasses, .int R.2.1, .int c_t_thingPlace, .int c_t_screenPlace, .int c_t_quarters, .int c_t_refused, .ref a_t_train, .ref a_t_single, .ref a_t_fan, .ref a_t_bending, .ref a_t_opening, .ref a_t_choice])), (a_t_places, .inl (cI, 8, .inl R.2.2.1)), (a_t_halves, .inl (cI, 8, .inl R.2.2.2.1)), (a_t_powers, .inl (cI, 8, .inl R.2.2.2.2.1)), (a_t_glasses, .inl (cI, 8, .inl R.2.2.2.2.2))] R.1 0 0 := by
  unfold f_X6_put at h
  refine st_i (cc := cX6_put) (maxL := 5) (by decide) rfl (Nat.le_of_ble_eq_true rfl) (fun p e s m av below meth c A Q ls hx hb hml hts hown hA hK hNM hZ hP hD hS hl hfin => ?_)
  have hown : s.vm.findClass RX6 = some m.cls := hown
  have hl : lv_has ls 5 [(0, .ref a_t), (1, .int p1), (2, .int p2), (3, .int p3), (4, .int p4)] := hl
  refine lv_aload_n hx hb dX6_put_0 rfl (lv_at hl 0 rfl) ?_
  refine va_get (D := D) (ci := 8) (v := .int c_t_count) (C := RX6) (T := TX6) (N := 15) hx hb hts mc_X6_put_X6 hown hK hP 0 rfl rfl 4 (by decide) (hts _ mf_X6_put_94) (fun _ h9 => h9) rfl dX6_put_1 ?_
  refine lv_bipush (v := (8 : Int32)) hx hb dX6_put_4 (by decide) ?_
  refine lv_icmp_lt (tgt := 20) hx hb dX6_put_6 (by decide) (fun q1 => ?_) (fun q1 => ?_)
  · replace h := ifp h q1
    refine lv_aload_n hx hb dX6_put_20 rfl (lv_at hl 0 rfl) ?_
    refine lv_iload_n hx hb dX6_put_21 rfl (lv_at hl 1 rfl) ?_
    refine lv_iconst (v := (-1 : Int32)) hx hb dX6_put_22 (by decide) ?_
    obtain ⟨o2, e3, h⟩ := bd_e h
    refine co_i (W0 := [(a_t, .inr (8, [.ref a_t_places, .ref a_t_halves, .ref a_t_powers, .ref a_t_glasses, .int c_t_count, .int c_t_thingPlace, .int c_t_screenPlace, .int c_t_quarters, .int c_t_refused, .ref a_t_train, .ref a_t_single, .ref a_t_fan, .ref a_t_bending, .ref a_t_opening, .ref a_t_choice])), (a_t_places, .inl (cI, 8, .inl c_t_places))]) (wr := [(a_t_halves, .inl (cI, 8, .inl c_t_halves)), (a_t_powers, .inl (cI, 8, .inl c_t_powers)), (a_t_glasses, .inl (cI, 8, .inl c_t_glasses))]) (W1 := [(a_t, .inr (8, [.ref a_t_places, .ref a_t_halves, .ref a_t_powers, .ref a_t_glasses, .int c_t_count, .int c_t_thingPlace, .int c_t_screenPlace, .int c_t_quarters, .int c_t_refused, .ref a_t_train, .ref a_t_single, .ref a_t_fan, .ref a_t_bending, .ref a_t_opening, .ref a_t_choice])), (a_t_places, .inl (cI, 8, .inl c_t_places))]) (ws2 := [(a_t, .inr (8, [.ref a_t_places, .ref a_t_halves, .ref a_t_powers, .ref a_t_glasses, .int c_t_count, .int c_t_thingPlace, .int c_t_screenPlace, .int c_t_quarters, .int c_t_refused, .ref a_t_train, .ref a_t_single, .ref a_t_fan, .ref a_t_bending, .ref a_t_opening, .ref a_t_choice])), (a_t_places, .inl (cI, 8, .inl c_t_places)), (a_t_halves, .inl (cI, 8, .inl c_t_halves)), (a_t_powers, .inl (cI, 8, .inl c_t_powers)), (a_t_glasses, .inl (cI, 8, .inl c_t_glasses))]) (va_runV (C := RX6) (As := [.int p1, .int (-1 : Int32)]) (rest := []) ⟨hx, hb, hml, hown, hts⟩ (m_X6_isTakenByOther l D cI cD cB a_t a_t_places a_t_halves a_t_powers a_t_glasses a_t_train a_t_single a_t_fan a_t_bending a_t_opening a_t_choice p1 (-1 : Int32) c_t_count c_t_thingPlace c_t_screenPlace c_t_quarters c_t_refused c_t_places o2 e3 _) (cwV 2 hts gX6_put_X6_isTakenByOther rfl rfl rfl (by decide +kernel) ⟨Nat.le_of_ble_eq_true rfl, Nat.le_of_ble_eq_true rfl⟩) (my_preV (q := (RX6, TX6, 15)) (ci := 8) (q0 := 0) [0, 1] hP hK hNM hZ hD hS hA rfl rfl rfl rfl) rfl rfl hl.1 rfl (lv_room (Nat.le_of_ble_eq_true rfl)) dX6_put_23 ⟨Nat.zero_le _, Nat.zero_le _⟩) hP hD hS hA [0, 1] [2, 3, 4] [3, 4, 0, 1, 2] rfl rfl rfl rfl rfl (by decide) (fun H locs hP hD hS => ?_)
    refine lv_if_eq (tgt := 40) hx hb dX6_put_26 (by decide) (fun q4 => ?_) (fun q4 => ?_)
    · replace h := ifp h q4
      refine lv_aload_n hx hb dX6_put_40 rfl (lv_at hl 0 rfl) ?_
      refine va_get (D := D) (ci := 8) (v := .ref a_t_places) (C := RX6) (T := TX6) (N := 15) hx hb hts mc_X6_put_X6 hown hK hP 0 rfl rfl 0 (by decide) (hts _ mf_X6_put_9) (fun _ h9 => h9) rfl dX6_put_41 ?_
      refine lv_aload_n hx hb dX6_put_44 rfl (lv_at hl 0 rfl) ?_
      refine va_get (D := D) (ci := 8) (v := .int c_t_count) (C := RX6) (T := TX6) (N := 15) hx hb hts mc_X6_put_X6 hown hK hP 0 rfl rfl 4 (by decide) (hts _ mf_X6_put_94) (fun _ h9 => h9) rfl dX6_put_45 ?_
      refine lv_iload_n hx hb dX6_put_48 rfl (lv_at hl 1 rfl) ?_
      obtain ⟨g5, h⟩ := gd_e h
      refine va_iast hx hb hK hP hD hS 1 0 rfl rfl (vin_in g5) dX6_put_49 (fun H locs hP hD hS => ?_)
      have hP : va_P D vwCl [(a_t, .inr (8, [.ref a_t_places, .ref a_t_halves, .ref a_t_powers, .ref a_t_glasses, .int c_t_count, .int c_t_thingPlace, .int c_t_screenPlace, .int c_t_quarters, .int c_t_refused, .ref a_t_train, .ref a_t_single, .ref a_t_fan, .ref a_t_bending, .ref a_t_opening, .ref a_t_choice])), (a_t_places, .inl (cI, 8, .inl (upd c_t_places (c_t_count).toNatClampNeg p1))), (a_t_halves, .inl (cI, 8, .inl c_t_halves)), (a_t_powers, .inl (cI, 8, .inl c_t_powers)), (a_t_glasses, .inl (cI, 8, .inl c_t_glasses))] H := hP
      have hD : va_D A [(a_t, .inr (8, [.ref a_t_places, .ref a_t_halves, .ref a_t_powers, .ref a_t_glasses, .int c_t_count, .int c_t_thingPlace, .int c_t_screenPlace, .int c_t_quarters, .int c_t_refused, .ref a_t_train, .ref a_t_single, .ref a_t_fan, .ref a_t_bending, .ref a_t_opening, .ref a_t_choice])), (a_t_places, .inl (cI, 8, .inl (upd c_t_places (c_t_count).toNatClampNeg p1))), (a_t_halves, .inl (cI, 8, .inl c_t_halves)), (a_t_powers, .inl (cI, 8, .inl c_t_powers)), (a_t_glasses, .inl (cI, 8, .inl c_t_glasses))] := hD
      refine lv_aload_n hx hb dX6_put_50 rfl (lv_at hl 0 rfl) ?_
      refine va_get (D := D) (ci := 8) (v := .ref a_t_halves) (C := RX6) (T := TX6) (N := 15) hx hb hts mc_X6_put_X6 hown hK hP 0 rfl rfl 1 (by decide) (hts _ mf_X6_put_13) (fun _ h9 => h9) rfl dX6_put_51 ?_
      refine lv_aload_n hx hb dX6_put_54 rfl (lv_at hl 0 rfl) ?_
      refine va_get (D := D) (ci := 8) (v := .int c_t_count) (C := RX6) (T := TX6) (N := 15) hx hb hts mc_X6_put_X6 hown hK hP 0 rfl rfl 4 (by decide) (hts _ mf_X6_put_94) (fun _ h9 => h9) rfl dX6_put_55 ?_
      refine lv_iload_n hx hb dX6_put_58 rfl (lv_at hl 2 rfl) ?_
      obtain ⟨g6, h⟩ := gd_e h
      refine va_iast hx hb hK hP hD hS 2 0 rfl rfl (vin_in g6) dX6_put_59 (fun H locs hP hD hS => ?_)
      have hP : va_P D vwCl [(a_t, .inr (8, [.ref a_t_places, .ref a_t_halves, .ref a_t_powers, .ref a_t_glasses, .int c_t_count, .int c_t_thingPlace, .int c_t_screenPlace, .int c_t_quarters, .int c_t_refused, .ref a_t_train, .ref a_t_single, .ref a_t_fan, .ref a_t_bending, .ref a_t_opening, .ref a_t_choice])), (a_t_places, .inl (cI, 8, .inl (upd c_t_places (c_t_count).toNatClampNeg p1))), (a_t_halves, .inl (cI, 8, .inl (upd c_t_halves (c_t_count).toNatClampNeg p2))), (a_t_powers, .inl (cI, 8, .inl c_t_powers)), (a_t_glasses, .inl (cI, 8, .inl c_t_glasses))] H := hP
      have hD : va_D A [(a_t, .inr (8, [.ref a_t_places, .ref a_t_halves, .ref a_t_powers, .ref a_t_glasses, .int c_t_count, .int c_t_thingPlace, .int c_t_screenPlace, .int c_t_quarters, .int c_t_refused, .ref a_t_train, .ref a_t_single, .ref a_t_fan, .ref a_t_bending, .ref a_t_opening, .ref a_t_choice])), (a_t_places, .inl (cI, 8, .inl (upd c_t_places (c_t_count).toNatClampNeg p1))), (a_t_halves, .inl (cI, 8, .inl (upd c_t_halves (c_t_count).toNatClampNeg p2))), (a_t_powers, .inl (cI, 8, .inl c_t_powers)), (a_t_glasses, .inl (cI, 8, .inl c_t_glasses))] := hD
      refine lv_aload_n hx hb dX6_put_60 rfl (lv_at hl 0 rfl) ?_
      refine va_get (D := D) (ci := 8) (v := .ref a_t_powers) (C := RX6) (T := TX6) (N := 15) hx hb hts mc_X6_put_X6 hown hK hP 0 rfl rfl 2 (by decide) (hts _ mf_X6_put_16) (fun _ h9 => h9) rfl dX6_put_61 ?_
      refine lv_aload_n hx hb dX6_put_64 rfl (lv_at hl 0 rfl) ?_
      refine va_get (D := D) (ci := 8) (v := .int c_t_count) (C := RX6) (T := TX6) (N := 15) hx hb hts mc_X6_put_X6 hown hK hP 0 rfl rfl 4 (by decide) (hts _ mf_X6_put_94) (fun _ h9 => h9) rfl dX6_put_65 ?_
      refine lv_iload_n hx hb dX6_put_68 rfl (lv_at hl 3 rfl) ?_
      obtain ⟨g7, h⟩ := gd_e h
      refine va_iast hx hb hK hP hD hS 3 0 rfl rfl (vin_in g7) dX6_put_69 (fun H locs hP hD hS => ?_)
      have hP : va_P D vwCl [(a_t, .inr (8, [.ref a_t_places, .ref a_t_halves, .ref a_t_powers, .ref a_t_glasses, .int c_t_count, .int c_t_thingPlace, .int c_t_screenPlace, .int c_t_quarters, .int c_t_refused, .ref a_t_train, .ref a_t_single, .ref a_t_fan, .ref a_t_bending, .ref a_t_opening, .ref a_t_choice])), (a_t_places, .inl (cI, 8, .inl (upd c_t_places (c_t_count).toNatClampNeg p1))), (a_t_halves, .inl (cI, 8, .inl (upd c_t_halves (c_t_count).toNatClampNeg p2))), (a_t_powers, .inl (cI, 8, .inl (upd c_t_powers (c_t_count).toNatClampNeg p3))), (a_t_glasses, .inl (cI, 8, .inl c_t_glasses))] H := hP
      have hD : va_D A [(a_t, .inr (8, [.ref a_t_places, .ref a_t_halves, .ref a_t_powers, .ref a_t_glasses, .int c_t_count, .int c_t_thingPlace, .int c_t_screenPlace, .int c_t_quarters, .int c_t_refused, .ref a_t_train, .ref a_t_single, .ref a_t_fan, .ref a_t_bending, .ref a_t_opening, .ref a_t_choice])), (a_t_places, .inl (cI, 8, .inl (upd c_t_places (c_t_count).toNatClampNeg p1))), (a_t_halves, .inl (cI, 8, .inl (upd c_t_halves (c_t_count).toNatClampNeg p2))), (a_t_powers, .inl (cI, 8, .inl (upd c_t_powers (c_t_count).toNatClampNeg p3))), (a_t_glasses, .inl (cI, 8, .inl c_t_glasses))] := hD
      refine lv_aload_n hx hb dX6_put_70 rfl (lv_at hl 0 rfl) ?_
      refine va_get (D := D) (ci := 8) (v := .ref a_t_glasses) (C := RX6) (T := TX6) (N := 15) hx hb hts mc_X6_put_X6 hown hK hP 0 rfl rfl 3 (by decide) (hts _ mf_X6_put_19) (fun _ h9 => h9) rfl dX6_put_71 ?_
      refine lv_aload_n hx hb dX6_put_74 rfl (lv_at hl 0 rfl) ?_
      refine va_get (D := D) (ci := 8) (v := .int c_t_count) (C := RX6) (T := TX6) (N := 15) hx hb hts mc_X6_put_X6 hown hK hP 0 rfl rfl 4 (by decide) (hts _ mf_X6_put_94) (fun _ h9 => h9) rfl dX6_put_75 ?_
      refine lv_iload hx hb dX6_put_78 (lv_at hl 4 rfl) ?_
      obtain ⟨g8, h⟩ := gd_e h
      refine va_iast hx hb hK hP hD hS 4 0 rfl rfl (vin_in g8) dX6_put_80 (fun H locs hP hD hS => ?_)
      have hP : va_P D vwCl [(a_t, .inr (8, [.ref a_t_places, .ref a_t_halves, .ref a_t_powers, .ref a_t_glasses, .int c_t_count, .int c_t_thingPlace, .int c_t_screenPlace, .int c_t_quarters, .int c_t_refused, .ref a_t_train, .ref a_t_single, .ref a_t_fan, .ref a_t_bending, .ref a_t_opening, .ref a_t_choice])), (a_t_places, .inl (cI, 8, .inl (upd c_t_places (c_t_count).toNatClampNeg p1))), (a_t_halves, .inl (cI, 8, .inl (upd c_t_halves (c_t_count).toNatClampNeg p2))), (a_t_powers, .inl (cI, 8, .inl (upd c_t_powers (c_t_count).toNatClampNeg p3))), (a_t_glasses, .inl (cI, 8, .inl (upd c_t_glasses (c_t_count).toNatClampNeg p4)))] H := hP
      have hD : va_D A [(a_t, .inr (8, [.ref a_t_places, .ref a_t_halves, .ref a_t_powers, .ref a_t_glasses, .int c_t_count, .int c_t_thingPlace, .int c_t_screenPlace, .int c_t_quarters, .int c_t_refused, .ref a_t_train, .ref a_t_single, .ref a_t_fan, .ref a_t_bending, .ref a_t_opening, .ref a_t_choice])), (a_t_places, .inl (cI, 8, .inl (upd c_t_places (c_t_count).toNatClampNeg p1))), (a_t_halves, .inl (cI, 8, .inl (upd c_t_halves (c_t_count).toNatClampNeg p2))), (a_t_powers, .inl (cI, 8, .inl (upd c_t_powers (c_t_count).toNatClampNeg p3))), (a_t_glasses, .inl (cI, 8, .inl (upd c_t_glasses (c_t_count).toNatClampNeg p4)))] := hD
      refine lv_aload_n hx hb dX6_put_81 rfl (lv_at hl 0 rfl) ?_
      refine lv_dup hx hb dX6_put_82 rfl ?_
      refine va_get (D := D) (ci := 8) (v := .int c_t_count) (C := RX6) (T := TX6) (N := 15) hx hb hts mc_X6_put_X6 hown hK hP 0 rfl rfl 4 (by decide) (hts _ mf_X6_put_94) (fun _ h9 => h9) rfl dX6_put_83 ?_
      refine lv_iconst (v := (1 : Int32)) hx hb dX6_put_86 (by decide) ?_
      refine lv_iadd hx hb dX6_put_87 ?_
      refine va_put (D := D) (ci := 8) (v := .int (c_t_count + (1 : Int32))) (ty := .int) (C := RX6) (T := TX6) (N := 15) hx hb hts mc_X6_put_X6 tyX6 tyX6_ok nmX6 hown hK hP hD hS 0 rfl rfl 4 (by decide) (hts _ mf_X6_put_94) (fun _ h9 => h9) rfl (tyX6_ok 4 (by decide)) rfl rfl (Nat.le_of_ble_eq_true rfl) dX6_put_88 (fun H locs hP hD hS => ?_)
      have hP : va_P D vwCl [(a_t, .inr (8, [.ref a_t_places, .ref a_t_halves, .ref a_t_powers, .ref a_t_glasses, .int (c_t_count + (1 : Int32)), .int c_t_thingPlace, .int c_t_screenPlace, .int c_t_quarters, .int c_t_refused, .ref a_t_train, .ref a_t_single, .ref a_t_fan, .ref a_t_bending, .ref a_t_opening, .ref a_t_choice])), (a_t_places, .inl (cI, 8, .inl (upd c_t_places (c_t_count).toNatClampNeg p1))), (a_t_halves, .inl (cI, 8, .inl (upd c_t_halves (c_t_count).toNatClampNeg p2))), (a_t_powers, .inl (cI, 8, .inl (upd c_t_powers (c_t_count).toNatClampNeg p3))), (a_t_glasses, .inl (cI, 8, .inl (upd c_t_glasses (c_t_count).toNatClampNeg p4)))] H := hP
      have hD : va_D A [(a_t, .inr (8, [.ref a_t_places, .ref a_t_halves, .ref a_t_powers, .ref a_t_glasses, .int (c_t_count + (1 : Int32)), .int c_t_thingPlace, .int c_t_screenPlace, .int c_t_quarters, .int c_t_refused, .ref a_t_train, .ref a_t_single, .ref a_t_fan, .ref a_t_bending, .ref a_t_opening, .ref a_t_choice])), (a_t_places, .inl (cI, 8, .inl (upd c_t_places (c_t_count).toNatClampNeg p1))), (a_t_halves, .inl (cI, 8, .inl (upd c_t_halves (c_t_count).toNatClampNeg p2))), (a_t_powers, .inl (cI, 8, .inl (upd c_t_powers (c_t_count).toNatClampNeg p3))), (a_t_glasses, .inl (cI, 8, .inl (upd c_t_glasses (c_t_count).toNatClampNeg p4)))] := hD
      refine lv_aload_n hx hb dX6_put_91 rfl (lv_at hl 0 rfl) ?_
      refine va_get (D := D) (ci := 8) (v := .int (c_t_count + (1 : Int32))) (C := RX6) (T := TX6) (N := 15) hx hb hts mc_X6_put_X6 hown hK hP 0 rfl rfl 4 (by decide) (hts _ mf_X6_put_94) (fun _ h9 => h9) rfl dX6_put_92 ?_
      refine lv_iconst (v := (1 : Int32)) hx hb dX6_put_95 (by decide) ?_
      refine lv_isub hx hb dX6_put_96 ?_
      rw [← inr_e h] at hfin
      exact hfin 97 _ _ _ dX6_put_97 rfl hP hD hS
    · replace h := ifn h q4
      cases h
  · replace h := ifn h q1
    cases h
abbrev rm_X6_lens : Room := { frames := 2, cells := 0, slots := 0, locals := 47 }
set_option maxHeartbeats 4000000 in
set_option maxRecDepth 100000 in
theorem m_X6_lens (l : Launch) (D : va_G) (cI cD cB : ClassId) (a_t : Nat) (a_t_places : Nat) (a_t_halves : Nat) (a_t_powers : Nat) (a_t_glasses : Nat) (a_t_train : Nat) (a_t_single : Nat) (a_t_fan : Nat) (a_t_bending : Nat) (a_t_opening : Nat) (a_t_choice : Nat) (p1 : Int32) (p2 : Int32) (p3 : Int32) (p4 : Int32) (c_t_count : Int32) (c_t_thingPlace : Int32) (c_t_screenPlace : Int32) (c_t_quarters : Int32) (c_t_refused : Int32) (c_t_places : Nat → Int32) (c_t_halves : Nat → Int32) (c_t_powers : Nat → Int32) (c_t_glasses : Nat → Int32) (R : Int32 × Int32 × (Nat → Int32) × (Nat → Int32) × (Nat → Int32) × (Nat → Int32)) (h : f_X6_lens p1 p2 p3 p4 c_t_count c_t_places c_t_halves c_t_powers c_t_glasses = some (.inr R)) : Ci l yX6_lens wsX6_lens rm_X6_lens D (TT cI cD cB) [.ref a_t, .int p1, .int p2, .int p3, .int p4] [(a_t, .inr (8, [.ref a_t_places, .ref a_t_halves, .ref a_t_powers, .ref a_t_glasses, .int c_t_count, .int c_t_thingPlace, .int c_t_screenPlace, .int c_t_quarters, .int c_t_refused, .ref a_t_train, .ref a_t_single, .ref a_t_fan, .ref a_t_bending, .ref a_t_opening, .ref a_t_choice])), (a_t_places, .inl (cI, 8, .inl c_t_places)), (a_t_halves, .inl (cI, 8, .inl c_t_halves)), (a_t_powers, .inl (cI, 8, .inl c_t_powers)), (a_t_glasses, .inl (cI, 8, .inl c_t_glasses))] [(a_t, .inr (8, [.ref a_t_places, .ref a_t_halves, .ref a_t_powers, .ref a_t_glasses, .int R.2.1, .int c_t_thingPlace, .int c_t_screenPlace, .int c_t_quarters, .int c_t_refused, .ref a_t_train, .ref a_t_single, .ref a_t_fan, .ref a_t_bending, .ref a_t_opening, .ref a_t_choice])), (a_t_places, .inl (cI, 8, .inl R.2.2.1)), (a_t_halves, .inl (cI, 8, .inl R.2.2.2.1)), (a_t_powers, .inl (cI, 8, .inl R.2.2.2.2.1)), (a_t_glasses, .inl (cI, 8, .inl R.2.2.2.2.2))] R.1 0 0 := by
  unfold f_X6_lens at h
  refine st_i (cc := cX6_lens) (maxL := 5) (by decide) rfl (Nat.le_of_ble_eq_true rfl) (fun p e s m av below meth c A Q ls hx hb hml hts hown hA hK hNM hZ hP hD hS hl hfin => ?_)
  have hown : s.vm.findClass RX6 = some m.cls := hown
  have hl : lv_has ls 5 [(0, .ref a_t), (1, .int p1), (2, .int p2), (3, .int p3), (4, .int p4)] := hl
  refine lv_iload_n hx hb dX6_lens_0 rfl (lv_at hl 1 rfl) ?_
  obtain ⟨o1, e2, h⟩ := bx_r h
  refine co_v (W0 := []) (wr := [(a_t, .inr (8, [.ref a_t_places, .ref a_t_halves, .ref a_t_powers, .ref a_t_glasses, .int c_t_count, .int c_t_thingPlace, .int c_t_screenPlace, .int c_t_quarters, .int c_t_refused, .ref a_t_train, .ref a_t_single, .ref a_t_fan, .ref a_t_bending, .ref a_t_opening, .ref a_t_choice])), (a_t_places, .inl (cI, 8, .inl c_t_places)), (a_t_halves, .inl (cI, 8, .inl c_t_halves)), (a_t_powers, .inl (cI, 8, .inl c_t_powers)), (a_t_glasses, .inl (cI, 8, .inl c_t_glasses))]) (W1 := []) (ws2 := [(a_t, .inr (8, [.ref a_t_places, .ref a_t_halves, .ref a_t_powers, .ref a_t_glasses, .int c_t_count, .int c_t_thingPlace, .int c_t_screenPlace, .int c_t_quarters, .int c_t_refused, .ref a_t_train, .ref a_t_single, .ref a_t_fan, .ref a_t_bending, .ref a_t_opening, .ref a_t_choice])), (a_t_places, .inl (cI, 8, .inl c_t_places)), (a_t_halves, .inl (cI, 8, .inl c_t_halves)), (a_t_powers, .inl (cI, 8, .inl c_t_powers)), (a_t_glasses, .inl (cI, 8, .inl c_t_glasses))]) (va_runS (As := [.int p1]) (rest := []) ⟨hx, hb, hml, hown, hts⟩ (m_X6_needPlace l D cI cD cB p1 o1 e2 _) (va_cwS 1 hts gX6_lens_X6_needPlace rfl rfl rfl (by decide +kernel) ⟨Nat.le_of_ble_eq_true rfl, Nat.le_of_ble_eq_true rfl⟩) (my_preS [] hP hK hNM hZ hD hS hA rfl rfl) rfl rfl hl.1 rfl (lv_room (Nat.le_of_ble_eq_true rfl)) dX6_lens_1 ⟨Nat.zero_le _, Nat.zero_le _⟩) hP hD hS hA [] [0, 1, 2, 3, 4] [0, 1, 2, 3, 4] rfl rfl rfl rfl rfl (by decide) (fun H locs hP hD hS => ?_)
  refine lv_iload_n hx hb dX6_lens_4 rfl (lv_at hl 2 rfl) ?_
  obtain ⟨o3, e4, h⟩ := bx_r h
  refine co_v (W0 := []) (wr := [(a_t, .inr (8, [.ref a_t_places, .ref a_t_halves, .ref a_t_powers, .ref a_t_glasses, .int c_t_count, .int c_t_thingPlace, .int c_t_screenPlace, .int c_t_quarters, .int c_t_refused, .ref a_t_train, .ref a_t_single, .ref a_t_fan, .ref a_t_bending, .ref a_t_opening, .ref a_t_choice])), (a_t_places, .inl (cI, 8, .inl c_t_places)), (a_t_halves, .inl (cI, 8, .inl c_t_halves)), (a_t_powers, .inl (cI, 8, .inl c_t_powers)), (a_t_glasses, .inl (cI, 8, .inl c_t_glasses))]) (W1 := []) (ws2 := [(a_t, .inr (8, [.ref a_t_places, .ref a_t_halves, .ref a_t_powers, .ref a_t_glasses, .int c_t_count, .int c_t_thingPlace, .int c_t_screenPlace, .int c_t_quarters, .int c_t_refused, .ref a_t_train, .ref a_t_single, .ref a_t_fan, .ref a_t_bending, .ref a_t_opening, .ref a_t_choice])), (a_t_places, .inl (cI, 8, .inl c_t_places)), (a_t_halves, .inl (cI, 8, .inl c_t_halves)), (a_t_powers, .inl (cI, 8, .inl c_t_powers)), (a_t_glasses, .inl (cI, 8, .inl c_t_glasses))]) (va_runS (As := [.int p2]) (rest := []) ⟨hx, hb, hml, hown, hts⟩ (m_X6_needHalf l D cI cD cB p2 o3 e4 _) (va_cwS 1 hts gX6_lens_X6_needHalf rfl rfl rfl (by decide +kernel) ⟨Nat.le_of_ble_eq_true rfl, Nat.le_of_ble_eq_true rfl⟩) (my_preS [] hP hK hNM hZ hD hS hA rfl rfl) rfl rfl hl.1 rfl (lv_room (Nat.le_of_ble_eq_true rfl)) dX6_lens_5 ⟨Nat.zero_le _, Nat.zero_le _⟩) hP hD hS hA [] [0, 1, 2, 3, 4] [0, 1, 2, 3, 4] rfl rfl rfl rfl rfl (by decide) (fun H locs hP hD hS => ?_)
  refine lv_iload_n hx hb dX6_lens_8 rfl (lv_at hl 3 rfl) ?_
  refine lv_if_eq (tgt := 24) hx hb dX6_lens_9 (by decide) (fun q5 => ?_) (fun q5 => ?_)
  · replace h := ifp h q5
    cases h
  · replace h := ifn h q5
    refine lv_iload_n hx hb dX6_lens_12 rfl (lv_at hl 3 rfl) ?_
    refine lv_bipush (v := (-50 : Int32)) hx hb dX6_lens_13 (by decide) ?_
    refine lv_icmp_lt (tgt := 24) hx hb dX6_lens_15 (by decide) (fun q6 => ?_) (fun q6 => ?_)
    · replace h := ifp h q6
      cases h
    · replace h := ifn h q6
      refine lv_iload_n hx hb dX6_lens_18 rfl (lv_at hl 3 rfl) ?_
      refine lv_bipush (v := (50 : Int32)) hx hb dX6_lens_19 (by decide) ?_
      refine lv_icmp_le (tgt := 34) hx hb dX6_lens_21 (by decide) (fun q7 => ?_) (fun q7 => ?_)
      · replace h := ifp h q7
        refine lv_iload hx hb dX6_lens_34 (lv_at hl 4 rfl) ?_
        refine lv_if_lt (tgt := 45) hx hb dX6_lens_36 (by decide) (fun q8 => ?_) (fun q8 => ?_)
        · replace h := ifp h q8
          cases h
        · replace h := ifn h q8
          refine lv_iload hx hb dX6_lens_39 (lv_at hl 4 rfl) ?_
          refine lv_iconst (v := (2 : Int32)) hx hb dX6_lens_41 (by decide) ?_
          refine lv_icmp_le (tgt := 55) hx hb dX6_lens_42 (by decide) (fun q9 => ?_) (fun q9 => ?_)
          · replace h := ifp h q9
            refine lv_aload_n hx hb dX6_lens_55 rfl (lv_at hl 0 rfl) ?_
            refine lv_iload_n hx hb dX6_lens_56 rfl (lv_at hl 1 rfl) ?_
            refine lv_iload_n hx hb dX6_lens_57 rfl (lv_at hl 2 rfl) ?_
            refine lv_iload_n hx hb dX6_lens_58 rfl (lv_at hl 3 rfl) ?_
            refine lv_iload hx hb dX6_lens_59 (lv_at hl 4 rfl) ?_
            obtain ⟨o10, e11, h⟩ := bx_r h
            refine co_i (W0 := [(a_t, .inr (8, [.ref a_t_places, .ref a_t_halves, .ref a_t_powers, .ref a_t_glasses, .int c_t_count, .int c_t_thingPlace, .int c_t_screenPlace, .int c_t_quarters, .int c_t_refused, .ref a_t_train, .ref a_t_single, .ref a_t_fan, .ref a_t_bending, .ref a_t_opening, .ref a_t_choice])), (a_t_places, .inl (cI, 8, .inl c_t_places)), (a_t_halves, .inl (cI, 8, .inl c_t_halves)), (a_t_powers, .inl (cI, 8, .inl c_t_powers)), (a_t_glasses, .inl (cI, 8, .inl c_t_glasses))]) (wr := []) (W1 := [(a_t, .inr (8, [.ref a_t_places, .ref a_t_halves, .ref a_t_powers, .ref a_t_glasses, .int o10.2.1, .int c_t_thingPlace, .int c_t_screenPlace, .int c_t_quarters, .int c_t_refused, .ref a_t_train, .ref a_t_single, .ref a_t_fan, .ref a_t_bending, .ref a_t_opening, .ref a_t_choice])), (a_t_places, .inl (cI, 8, .inl o10.2.2.1)), (a_t_halves, .inl (cI, 8, .inl o10.2.2.2.1)), (a_t_powers, .inl (cI, 8, .inl o10.2.2.2.2.1)), (a_t_glasses, .inl (cI, 8, .inl o10.2.2.2.2.2))]) (ws2 := [(a_t, .inr (8, [.ref a_t_places, .ref a_t_halves, .ref a_t_powers, .ref a_t_glasses, .int o10.2.1, .int c_t_thingPlace, .int c_t_screenPlace, .int c_t_quarters, .int c_t_refused, .ref a_t_train, .ref a_t_single, .ref a_t_fan, .ref a_t_bending, .ref a_t_opening, .ref a_t_choice])), (a_t_places, .inl (cI, 8, .inl o10.2.2.1)), (a_t_halves, .inl (cI, 8, .inl o10.2.2.2.1)), (a_t_powers, .inl (cI, 8, .inl o10.2.2.2.2.1)), (a_t_glasses, .inl (cI, 8, .inl o10.2.2.2.2.2))]) (va_runV (C := RX6) (As := [.int p1, .int p2, .int p3, .int p4]) (rest := []) ⟨hx, hb, hml, hown, hts⟩ (m_X6_put l D cI cD cB a_t a_t_places a_t_halves a_t_powers a_t_glasses a_t_train a_t_single a_t_fan a_t_bending a_t_opening a_t_choice p1 p2 p3 p4 c_t_count c_t_thingPlace c_t_screenPlace c_t_quarters c_t_refused c_t_places c_t_halves c_t_powers c_t_glasses o10 e11 _) (cwV 4 hts gX6_lens_X6_put rfl rfl rfl (by decide +kernel) ⟨Nat.le_of_ble_eq_true rfl, Nat.le_of_ble_eq_true rfl⟩) (my_preV (q := (RX6, TX6, 15)) (ci := 8) (q0 := 0) [0, 1, 2, 3, 4] hP hK hNM hZ hD hS hA rfl rfl rfl rfl) rfl rfl hl.1 rfl (lv_room (Nat.le_of_ble_eq_true rfl)) dX6_lens_61 ⟨Nat.zero_le _, Nat.zero_le _⟩) hP hD hS hA [0, 1, 2, 3, 4] [] [0, 1, 2, 3, 4] rfl rfl rfl rfl rfl (by decide) (fun H locs hP hD hS => ?_)
            rw [← inr_e h] at hfin
            exact hfin 64 _ _ _ dX6_lens_64 rfl hP hD hS
          · replace h := ifn h q9
            cases h
      · replace h := ifn h q7
        cases h
theorem mc_X6_move_X6 : ∀ w ∈ wsX60, w ∈ wsX6_move := by decide +kernel
theorem mf_X6_move_9 : Cond.fieldLink RX6 9 "Lensbench" "places" "[I" ∈ wsX6_move := by decide +kernel
abbrev rm_X6_move : Room := { frames := 2, cells := 0, slots := 0, locals := 42 }
set_option maxHeartbeats 4000000 in
set_option maxRecDepth 100000 in
theorem m_X6_move (l : Launch) (D : va_G) (cI cD cB : ClassId) (a_t : Nat) (a_t_places : Nat) (a_t_halves : Nat) (a_t_powers : Nat) (a_t_glasses : Nat) (a_t_train : Nat) (a_t_single : Nat) (a_t_fan : Nat) (a_t_bending : Nat) (a_t_opening : Nat) (a_t_choice : Nat) (p1 : Int32) (p2 : Int32) (c_t_count : Int32) (c_t_thingPlace : Int32) (c_t_screenPlace : Int32) (c_t_quarters : Int32) (c_t_refused : Int32) (c_t_places : Nat → Int32) (R : Int32 × (Nat → Int32)) (h : f_X6_move p1 p2 c_t_count c_t_places = some (.inr R)) : Ci l yX6_move wsX6_move rm_X6_move D (TT cI cD cB) [.ref a_t, .int p1, .int p2] [(a_t, .inr (8, [.ref a_t_places, .ref a_t_halves, .ref a_t_powers, .ref a_t_glasses, .int c_t_count, .int c_t_thingPlace, .int c_t_screenPlace, .int c_t_quarters, .int c_t_refused, .ref a_t_train, .ref a_t_single, .ref a_t_fan, .ref a_t_bending, .ref a_t_opening, .ref a_t_choice])), (a_t_places, .inl (cI, 8, .inl c_t_places))] [(a_t, .inr (8, [.ref a_t_places, .ref a_t_halves, .ref a_t_powers, .ref a_t_glasses, .int c_t_count, .int c_t_thingPlace, .int c_t_screenPlace, .int c_t_quarters, .int c_t_refused, .ref a_t_train, .ref a_t_single, .ref a_t_fan, .ref a_t_bending, .ref a_t_opening, .ref a_t_choice])), (a_t_places, .inl (cI, 8, .inl R.2))] R.1 0 0 := by
  unfold f_X6_move at h
  refine st_i (cc := cX6_move) (maxL := 4) (by decide) rfl (Nat.le_of_ble_eq_true rfl) (fun p e s m av below meth c A Q ls hx hb hml hts hown hA hK hNM hZ hP hD hS hl hfin => ?_)
  have hown : s.vm.findClass RX6 = some m.cls := hown
  have hl : lv_has ls 4 [(0, .ref a_t), (1, .int p1), (2, .int p2)] := hl
  refine lv_aload_n hx hb dX6_move_0 rfl (lv_at hl 0 rfl) ?_
  refine lv_iload_n hx hb dX6_move_1 rfl (lv_at hl 1 rfl) ?_
  obtain ⟨o1, e2, h⟩ := bx_r h
  refine co_v (W0 := [(a_t, .inr (8, [.ref a_t_places, .ref a_t_halves, .ref a_t_powers, .ref a_t_glasses, .int c_t_count, .int c_t_thingPlace, .int c_t_screenPlace, .int c_t_quarters, .int c_t_refused, .ref a_t_train, .ref a_t_single, .ref a_t_fan, .ref a_t_bending, .ref a_t_opening, .ref a_t_choice]))]) (wr := [(a_t_places, .inl (cI, 8, .inl c_t_places))]) (W1 := [(a_t, .inr (8, [.ref a_t_places, .ref a_t_halves, .ref a_t_powers, .ref a_t_glasses, .int c_t_count, .int c_t_thingPlace, .int c_t_screenPlace, .int c_t_quarters, .int c_t_refused, .ref a_t_train, .ref a_t_single, .ref a_t_fan, .ref a_t_bending, .ref a_t_opening, .ref a_t_choice]))]) (ws2 := [(a_t, .inr (8, [.ref a_t_places, .ref a_t_halves, .ref a_t_powers, .ref a_t_glasses, .int c_t_count, .int c_t_thingPlace, .int c_t_screenPlace, .int c_t_quarters, .int c_t_refused, .ref a_t_train, .ref a_t_single, .ref a_t_fan, .ref a_t_bending, .ref a_t_opening, .ref a_t_choice])), (a_t_places, .inl (cI, 8, .inl c_t_places))]) (va_runV (C := RX6) (As := [.int p1]) (rest := []) ⟨hx, hb, hml, hown, hts⟩ (m_X6_needPiece l D cI cD cB a_t a_t_places a_t_halves a_t_powers a_t_glasses a_t_train a_t_single a_t_fan a_t_bending a_t_opening a_t_choice p1 c_t_count c_t_thingPlace c_t_screenPlace c_t_quarters c_t_refused o1 e2 _) (cwV 1 hts gX6_move_X6_needPiece rfl rfl rfl (by decide +kernel) ⟨Nat.le_of_ble_eq_true rfl, Nat.le_of_ble_eq_true rfl⟩) (my_preV (q := (RX6, TX6, 15)) (ci := 8) (q0 := 0) [0] hP hK hNM hZ hD hS hA rfl rfl rfl rfl) rfl rfl hl.1 rfl (lv_room (Nat.le_of_ble_eq_true rfl)) dX6_move_2 ⟨Nat.zero_le _, Nat.zero_le _⟩) hP hD hS hA [0] [1] [1, 0] rfl rfl rfl rfl rfl (by decide) (fun H locs hP hD hS => ?_)
  refine lv_iload_n hx hb dX6_move_5 rfl (lv_at hl 2 rfl) ?_
  obtain ⟨o3, e4, h⟩ := bx_r h
  refine co_v (W0 := []) (wr := [(a_t, .inr (8, [.ref a_t_places, .ref a_t_halves, .ref a_t_powers, .ref a_t_glasses, .int c_t_count, .int c_t_thingPlace, .int c_t_screenPlace, .int c_t_quarters, .int c_t_refused, .ref a_t_train, .ref a_t_single, .ref a_t_fan, .ref a_t_bending, .ref a_t_opening, .ref a_t_choice])), (a_t_places, .inl (cI, 8, .inl c_t_places))]) (W1 := []) (ws2 := [(a_t, .inr (8, [.ref a_t_places, .ref a_t_halves, .ref a_t_powers, .ref a_t_glasses, .int c_t_count, .int c_t_thingPlace, .int c_t_screenPlace, .int c_t_quarters, .int c_t_refused, .ref a_t_train, .ref a_t_single, .ref a_t_fan, .ref a_t_bending, .ref a_t_opening, .ref a_t_choice])), (a_t_places, .inl (cI, 8, .inl c_t_places))]) (va_runS (As := [.int p2]) (rest := []) ⟨hx, hb, hml, hown, hts⟩ (m_X6_needPlace l D cI cD cB p2 o3 e4 _) (va_cwS 1 hts gX6_move_X6_needPlace rfl rfl rfl (by decide +kernel) ⟨Nat.le_of_ble_eq_true rfl, Nat.le_of_ble_eq_true rfl⟩) (my_preS [] hP hK hNM hZ hD hS hA rfl rfl) rfl rfl hl.1 rfl (lv_room (Nat.le_of_ble_eq_true rfl)) dX6_move_6 ⟨Nat.zero_le _, Nat.zero_le _⟩) hP hD hS hA [] [0, 1] [0, 1] rfl rfl rfl rfl rfl (by decide) (fun H locs hP hD hS => ?_)
  refine lv_aload_n hx hb dX6_move_9 rfl (lv_at hl 0 rfl) ?_
  refine lv_iload_n hx hb dX6_move_10 rfl (lv_at hl 2 rfl) ?_
  refine lv_iload_n hx hb dX6_move_11 rfl (lv_at hl 1 rfl) ?_
  obtain ⟨o5, e6, h⟩ := bd_e h
  refine co_i (W0 := [(a_t, .inr (8, [.ref a_t_places, .ref a_t_halves, .ref a_t_powers, .ref a_t_glasses, .int c_t_count, .int c_t_thingPlace, .int c_t_screenPlace, .int c_t_quarters, .int c_t_refused, .ref a_t_train, .ref a_t_single, .ref a_t_fan, .ref a_t_bending, .ref a_t_opening, .ref a_t_choice])), (a_t_places, .inl (cI, 8, .inl c_t_places))]) (wr := []) (W1 := [(a_t, .inr (8, [.ref a_t_places, .ref a_t_halves, .ref a_t_powers, .ref a_t_glasses, .int c_t_count, .int c_t_thingPlace, .int c_t_screenPlace, .int c_t_quarters, .int c_t_refused, .ref a_t_train, .ref a_t_single, .ref a_t_fan, .ref a_t_bending, .ref a_t_opening, .ref a_t_choice])), (a_t_places, .inl (cI, 8, .inl c_t_places))]) (ws2 := [(a_t, .inr (8, [.ref a_t_places, .ref a_t_halves, .ref a_t_powers, .ref a_t_glasses, .int c_t_count, .int c_t_thingPlace, .int c_t_screenPlace, .int c_t_quarters, .int c_t_refused, .ref a_t_train, .ref a_t_single, .ref a_t_fan, .ref a_t_bending, .ref a_t_opening, .ref a_t_choice])), (a_t_places, .inl (cI, 8, .inl c_t_places))]) (va_runV (C := RX6) (As := [.int p2, .int p1]) (rest := []) ⟨hx, hb, hml, hown, hts⟩ (m_X6_isTakenByOther l D cI cD cB a_t a_t_places a_t_halves a_t_powers a_t_glasses a_t_train a_t_single a_t_fan a_t_bending a_t_opening a_t_choice p2 p1 c_t_count c_t_thingPlace c_t_screenPlace c_t_quarters c_t_refused c_t_places o5 e6 _) (cwV 2 hts gX6_move_X6_isTakenByOther rfl rfl rfl (by decide +kernel) ⟨Nat.le_of_ble_eq_true rfl, Nat.le_of_ble_eq_true rfl⟩) (my_preV (q := (RX6, TX6, 15)) (ci := 8) (q0 := 0) [0, 1] hP hK hNM hZ hD hS hA rfl rfl rfl rfl) rfl rfl hl.1 rfl (lv_room (Nat.le_of_ble_eq_true rfl)) dX6_move_12 ⟨Nat.zero_le _, Nat.zero_le _⟩) hP hD hS hA [0, 1] [] [0, 1] rfl rfl rfl rfl rfl (by decide) (fun H locs hP hD hS => ?_)
  refine lv_if_eq (tgt := 28) hx hb dX6_move_15 (by decide) (fun q7 => ?_) (fun q7 => ?_)
  · replace h := ifp h q7
    refine lv_aload_n hx hb dX6_move_28 rfl (lv_at hl 0 rfl) ?_
    refine va_get (D := D) (ci := 8) (v := .ref a_t_places) (C := RX6) (T := TX6) (N := 15) hx hb hts mc_X6_move_X6 hown hK hP 0 rfl rfl 0 (by decide) (hts _ mf_X6_move_9) (fun _ h9 => h9) rfl dX6_move_29 ?_
    refine lv_iload_n hx hb dX6_move_32 rfl (lv_at hl 1 rfl) ?_
    obtain ⟨g8, h⟩ := gd_e h
    refine va_iald hx hb hK hP 1 0 rfl rfl (vin_in g8) dX6_move_33 ?_
    refine lv_istore_n (lv' := [(3, .int (c_t_places (p1).toNatClampNeg)), (0, .ref a_t), (1, .int p1), (2, .int p2)]) hx hb dX6_move_34 rfl hl (by decide) rfl (fun ls hl => ?_)
    refine lv_aload_n hx hb dX6_move_35 rfl (lv_at hl 1 rfl) ?_
    refine va_get (D := D) (ci := 8) (v := .ref a_t_places) (C := RX6) (T := TX6) (N := 15) hx hb hts mc_X6_move_X6 hown hK hP 0 rfl rfl 0 (by decide) (hts _ mf_X6_move_9) (fun _ h9 => h9) rfl dX6_move_36 ?_
    refine lv_iload_n hx hb dX6_move_39 rfl (lv_at hl 2 rfl) ?_
    refine lv_iload_n hx hb dX6_move_40 rfl (lv_at hl 3 rfl) ?_
    obtain ⟨g9, h⟩ := gd_e h
    refine va_iast hx hb hK hP hD hS 1 0 rfl rfl (vin_in g9) dX6_move_41 (fun H locs hP hD hS => ?_)
    have hP : va_P D vwCl [(a_t, .inr (8, [.ref a_t_places, .ref a_t_halves, .ref a_t_powers, .ref a_t_glasses, .int c_t_count, .int c_t_thingPlace, .int c_t_screenPlace, .int c_t_quarters, .int c_t_refused, .ref a_t_train, .ref a_t_single, .ref a_t_fan, .ref a_t_bending, .ref a_t_opening, .ref a_t_choice])), (a_t_places, .inl (cI, 8, .inl (upd c_t_places (p1).toNatClampNeg p2)))] H := hP
    have hD : va_D A [(a_t, .inr (8, [.ref a_t_places, .ref a_t_halves, .ref a_t_powers, .ref a_t_glasses, .int c_t_count, .int c_t_thingPlace, .int c_t_screenPlace, .int c_t_quarters, .int c_t_refused, .ref a_t_train, .ref a_t_single, .ref a_t_fan, .ref a_t_bending, .ref a_t_opening, .ref a_t_choice])), (a_t_places, .inl (cI, 8, .inl (upd c_t_places (p1).toNatClampNeg p2)))] := hD
    refine lv_iload_n hx hb dX6_move_42 rfl (lv_at hl 0 rfl) ?_
    rw [← inr_e h] at hfin
    exact hfin 43 _ _ _ dX6_move_43 rfl hP hD hS
  · replace h := ifn h q7
    cases h
theorem mc_X6_powerOf_X6 : ∀ w ∈ wsX60, w ∈ wsX6_powerOf := by decide +kernel
theorem mf_X6_powerOf_16 : Cond.fieldLink RX6 16 "Lensbench" "powers" "[I" ∈ wsX6_powerOf := by decide +kernel
abbrev rm_X6_powerOf : Room := { frames := 1, cells := 0, slots := 0, locals := 21 }
set_option maxHeartbeats 4000000 in
set_option maxRecDepth 100000 in
theorem m_X6_powerOf (l : Launch) (D : va_G) (cI cD cB : ClassId) (a_t : Nat) (a_t_places : Nat) (a_t_halves : Nat) (a_t_powers : Nat) (a_t_glasses : Nat) (a_t_train : Nat) (a_t_single : Nat) (a_t_fan : Nat) (a_t_bending : Nat) (a_t_opening : Nat) (a_t_choice : Nat) (p1 : Int32) (c_t_count : Int32) (c_t_thingPlace : Int32) (c_t_screenPlace : Int32) (c_t_quarters : Int32) (c_t_refused : Int32) (c_t_powers : Nat → Int32) (R : Int32) (h : f_X6_powerOf p1 c_t_count c_t_powers = some R) : Ci l yX6_powerOf wsX6_powerOf rm_X6_powerOf D (TT cI cD cB) [.ref a_t, .int p1] [(a_t, .inr (8, [.ref a_t_places, .ref a_t_halves, .ref a_t_powers, .ref a_t_glasses, .int c_t_count, .int c_t_thingPlace, .int c_t_screenPlace, .int c_t_quarters, .int c_t_refused, .ref a_t_train, .ref a_t_single, .ref a_t_fan, .ref a_t_bending, .ref a_t_opening, .ref a_t_choice])), (a_t_powers, .inl (cI, 8, .inl c_t_powers))] [(a_t, .inr (8, [.ref a_t_places, .ref a_t_halves, .ref a_t_powers, .ref a_t_glasses, .int c_t_count, .int c_t_thingPlace, .int c_t_screenPlace, .int c_t_quarters, .int c_t_refused, .ref a_t_train, .ref a_t_single, .ref a_t_fan, .ref a_t_bending, .ref a_t_opening, .ref a_t_choice])), (a_t_powers, .inl (cI, 8, .inl c_t_powers))] R 0 0 := by
  unfold f_X6_powerOf at h
  refine st_i (cc := cX6_powerOf) (maxL := 2) (by decide) rfl (Nat.le_of_ble_eq_true rfl) (fun p e s m av below meth c A Q ls hx hb hml hts hown hA hK hNM hZ hP hD hS hl hfin => ?_)
  have hown : s.vm.findClass RX6 = some m.cls := hown
  have hl : lv_has ls 2 [(0, .ref a_t), (1, .int p1)] := hl
  refine lv_aload_n hx hb dX6_powerOf_0 rfl (lv_at hl 0 rfl) ?_
  refine lv_iload_n hx hb dX6_powerOf_1 rfl (lv_at hl 1 rfl) ?_
  obtain ⟨o1, e2, h⟩ := bd_e h
  refine co_i (W0 := [(a_t, .inr (8, [.ref a_t_places, .ref a_t_halves, .ref a_t_powers, .ref a_t_glasses, .int c_t_count, .int c_t_thingPlace, .int c_t_screenPlace, .int c_t_quarters, .int c_t_refused, .ref a_t_train, .ref a_t_single, .ref a_t_fan, .ref a_t_bending, .ref a_t_opening, .ref a_t_choice]))]) (wr := [(a_t_powers, .inl (cI, 8, .inl c_t_powers))]) (W1 := [(a_t, .inr (8, [.ref a_t_places, .ref a_t_halves, .ref a_t_powers, .ref a_t_glasses, .int c_t_count, .int c_t_thingPlace, .int c_t_screenPlace, .int c_t_quarters, .int c_t_refused, .ref a_t_train, .ref a_t_single, .ref a_t_fan, .ref a_t_bending, .ref a_t_opening, .ref a_t_choice]))]) (ws2 := [(a_t, .inr (8, [.ref a_t_places, .ref a_t_halves, .ref a_t_powers, .ref a_t_glasses, .int c_t_count, .int c_t_thingPlace, .int c_t_screenPlace, .int c_t_quarters, .int c_t_refused, .ref a_t_train, .ref a_t_single, .ref a_t_fan, .ref a_t_bending, .ref a_t_opening, .ref a_t_choice])), (a_t_powers, .inl (cI, 8, .inl c_t_powers))]) (va_runV (C := RX6) (As := [.int p1]) (rest := []) ⟨hx, hb, hml, hown, hts⟩ (m_X6_isPiece l D cI cD cB a_t a_t_places a_t_halves a_t_powers a_t_glasses a_t_train a_t_single a_t_fan a_t_bending a_t_opening a_t_choice p1 c_t_count c_t_thingPlace c_t_screenPlace c_t_quarters c_t_refused o1 e2 _) (cwV 1 hts gX6_powerOf_X6_isPiece rfl rfl rfl (by decide +kernel) ⟨Nat.le_of_ble_eq_true rfl, Nat.le_of_ble_eq_true rfl⟩) (my_preV (q := (RX6, TX6, 15)) (ci := 8) (q0 := 0) [0] hP hK hNM hZ hD hS hA rfl rfl rfl rfl) rfl rfl hl.1 rfl (lv_room (Nat.le_of_ble_eq_true rfl)) dX6_powerOf_2 ⟨Nat.zero_le _, Nat.zero_le _⟩) hP hD hS hA [0] [1] [1, 0] rfl rfl rfl rfl rfl (by decide) (fun H locs hP hD hS => ?_)
  refine lv_if_eq (tgt := 17) hx hb dX6_powerOf_5 (by decide) (fun q3 => ?_) (fun q3 => ?_)
  · replace h := ifp h q3
    refine lv_iconst (v := (0 : Int32)) hx hb dX6_powerOf_17 (by decide) ?_
    rw [← some_e h] at hfin
    exact hfin 18 _ _ _ dX6_powerOf_18 rfl hP hD hS
  · replace h := ifn h q3
    refine lv_aload_n hx hb dX6_powerOf_8 rfl (lv_at hl 0 rfl) ?_
    refine va_get (D := D) (ci := 8) (v := .ref a_t_powers) (C := RX6) (T := TX6) (N := 15) hx hb hts mc_X6_powerOf_X6 hown hK hP 0 rfl rfl 2 (by decide) (hts _ mf_X6_powerOf_16) (fun _ h9 => h9) rfl dX6_powerOf_9 ?_
    refine lv_iload_n hx hb dX6_powerOf_12 rfl (lv_at hl 1 rfl) ?_
    obtain ⟨g4, h⟩ := gd_e h
    refine va_iald hx hb hK hP 1 0 rfl rfl (vin_in g4) dX6_powerOf_13 ?_
    refine lv_goto (tgt := 18) hx hb dX6_powerOf_14 (by decide) ?_
    rw [← some_e h] at hfin
    exact hfin 18 _ _ _ dX6_powerOf_18 rfl hP hD hS
theorem mc_X6_rattle_X6 : ∀ w ∈ wsX60, w ∈ wsX6_rattle := by decide +kernel
theorem mf_X6_rattle_113 : Cond.fieldLink RX6 113 "Lensbench" "refused" "I" ∈ wsX6_rattle := by decide +kernel
abbrev rm_X6_rattle : Room := { frames := 0, cells := 0, slots := 0, locals := 0 }
set_option maxHeartbeats 4000000 in
set_option maxRecDepth 100000 in
theorem m_X6_rattle (l : Launch) (D : va_G) (cI cD cB : ClassId) (a_t : Nat) (a_t_places : Nat) (a_t_halves : Nat) (a_t_powers : Nat) (a_t_glasses : Nat) (a_t_train : Nat) (a_t_single : Nat) (a_t_fan : Nat) (a_t_bending : Nat) (a_t_opening : Nat) (a_t_choice : Nat) (c_t_count : Int32) (c_t_thingPlace : Int32) (c_t_screenPlace : Int32) (c_t_quarters : Int32) (c_t_refused : Int32) (R : Int32 × Int32) (h : f_X6_rattle c_t_refused = some R) : Ci l yX6_rattle wsX6_rattle rm_X6_rattle D (TT cI cD cB) [.ref a_t] [(a_t, .inr (8, [.ref a_t_places, .ref a_t_halves, .ref a_t_powers, .ref a_t_glasses, .int c_t_count, .int c_t_thingPlace, .int c_t_screenPlace, .int c_t_quarters, .int c_t_refused, .ref a_t_train, .ref a_t_single, .ref a_t_fan, .ref a_t_bending, .ref a_t_opening, .ref a_t_choice]))] [(a_t, .inr (8, [.ref a_t_places, .ref a_t_halves, .ref a_t_powers, .ref a_t_glasses, .int c_t_count, .int c_t_thingPlace, .int c_t_screenPlace, .int c_t_quarters, .int R.2, .ref a_t_train, .ref a_t_single, .ref a_t_fan, .ref a_t_bending, .ref a_t_opening, .ref a_t_choice]))] R.1 0 0 := by
  unfold f_X6_rattle at h
  refine st_i (cc := cX6_rattle) (maxL := 1) (by decide) rfl (Nat.le_of_ble_eq_true rfl) (fun p e s m av below meth c A Q ls hx hb hml hts hown hA hK hNM hZ hP hD hS hl hfin => ?_)
  have hown : s.vm.findClass RX6 = some m.cls := hown
  have hl : lv_has ls 1 [(0, .ref a_t)] := hl
  refine lv_aload_n hx hb dX6_rattle_0 rfl (lv_at hl 0 rfl) ?_
  refine lv_dup hx hb dX6_rattle_1 rfl ?_
  refine va_get (D := D) (ci := 8) (v := .int c_t_refused) (C := RX6) (T := TX6) (N := 15) hx hb hts mc_X6_rattle_X6 hown hK hP 0 rfl rfl 8 (by decide) (hts _ mf_X6_rattle_113) (fun _ h9 => h9) rfl dX6_rattle_2 ?_
  refine lv_iconst (v := (1 : Int32)) hx hb dX6_rattle_5 (by decide) ?_
  refine lv_iadd hx hb dX6_rattle_6 ?_
  refine va_put (D := D) (ci := 8) (v := .int (c_t_refused + (1 : Int32))) (ty := .int) (C := RX6) (T := TX6) (N := 15) hx hb hts mc_X6_rattle_X6 tyX6 tyX6_ok nmX6 hown hK hP hD hS 0 rfl rfl 8 (by decide) (hts _ mf_X6_rattle_113) (fun _ h9 => h9) rfl (tyX6_ok 8 (by decide)) rfl rfl (Nat.le_of_ble_eq_true rfl) dX6_rattle_7 (fun H locs hP hD hS => ?_)
  have hP : va_P D vwCl [(a_t, .inr (8, [.ref a_t_places, .ref a_t_halves, .ref a_t_powers, .ref a_t_glasses, .int c_t_count, .int c_t_thingPlace, .int c_t_screenPlace, .int c_t_quarters, .int (c_t_refused + (1 : Int32)), .ref a_t_train, .ref a_t_single, .ref a_t_fan, .ref a_t_bending, .ref a_t_opening, .ref a_t_choice]))] H := hP
  have hD : va_D A [(a_t, .inr (8, [.ref a_t_places, .ref a_t_halves, .ref a_t_powers, .ref a_t_glasses, .int c_t_count, .int c_t_thingPlace, .int c_t_screenPlace, .int c_t_quarters, .int (c_t_refused + (1 : Int32)), .ref a_t_train, .ref a_t_single, .ref a_t_fan, .ref a_t_bending, .ref a_t_opening, .ref a_t_choice]))] := hD
  refine lv_aload_n hx hb dX6_rattle_10 rfl (lv_at hl 0 rfl) ?_
  refine va_get (D := D) (ci := 8) (v := .int (c_t_refused + (1 : Int32))) (C := RX6) (T := TX6) (N := 15) hx hb hts mc_X6_rattle_X6 hown hK hP 0 rfl rfl 8 (by decide) (hts _ mf_X6_rattle_113) (fun _ h9 => h9) rfl dX6_rattle_11 ?_
  rw [← some_e h] at hfin
  exact hfin 14 _ _ _ dX6_rattle_14 rfl hP hD hS
theorem mc_X6_screen_X6 : ∀ w ∈ wsX60, w ∈ wsX6_screen := by decide +kernel
theorem mf_X6_screen_108 : Cond.fieldLink RX6 108 "Lensbench" "thingPlace" "I" ∈ wsX6_screen := by decide +kernel
theorem mf_X6_screen_22 : Cond.fieldLink RX6 22 "Lensbench" "screenPlace" "I" ∈ wsX6_screen := by decide +kernel
abbrev rm_X6_screen : Room := { frames := 1, cells := 0, slots := 0, locals := 20 }
set_option maxHeartbeats 4000000 in
set_option maxRecDepth 100000 in
theorem m_X6_screen (l : Launch) (D : va_G) (cI cD cB : ClassId) (a_t : Nat) (a_t_places : Nat) (a_t_halves : Nat) (a_t_powers : Nat) (a_t_glasses : Nat) (a_t_train : Nat) (a_t_single : Nat) (a_t_fan : Nat) (a_t_bending : Nat) (a_t_opening : Nat) (a_t_choice : Nat) (p1 : Int32) (c_t_count : Int32) (c_t_thingPlace : Int32) (c_t_screenPlace : Int32) (c_t_quarters : Int32) (c_t_refused : Int32) (R : Int32 × Int32) (h : f_X6_screen p1 c_t_thingPlace c_t_screenPlace = some (.inr R)) : Ci l yX6_screen wsX6_screen rm_X6_screen D (TT cI cD cB) [.ref a_t, .int p1] [(a_t, .inr (8, [.ref a_t_places, .ref a_t_halves, .ref a_t_powers, .ref a_t_glasses, .int c_t_count, .int c_t_thingPlace, .int c_t_screenPlace, .int c_t_quarters, .int c_t_refused, .ref a_t_train, .ref a_t_single, .ref a_t_fan, .ref a_t_bending, .ref a_t_opening, .ref a_t_choice]))] [(a_t, .inr (8, [.ref a_t_places, .ref a_t_halves, .ref a_t_powers, .ref a_t_glasses, .int c_t_count, .int c_t_thingPlace, .int R.2, .int c_t_quarters, .int c_t_refused, .ref a_t_train, .ref a_t_single, .ref a_t_fan, .ref a_t_bending, .ref a_t_opening, .ref a_t_choice]))] R.1 0 0 := by
  unfold f_X6_screen at h
  refine st_i (cc := cX6_screen) (maxL := 3) (by decide) rfl (Nat.le_of_ble_eq_true rfl) (fun p e s m av below meth c A Q ls hx hb hml hts hown hA hK hNM hZ hP hD hS hl hfin => ?_)
  have hown : s.vm.findClass RX6 = some m.cls := hown
  have hl : lv_has ls 3 [(0, .ref a_t), (1, .int p1)] := hl
  refine lv_iload_n hx hb dX6_screen_0 rfl (lv_at hl 1 rfl) ?_
  obtain ⟨o1, e2, h⟩ := bx_r h
  refine co_v (W0 := []) (wr := [(a_t, .inr (8, [.ref a_t_places, .ref a_t_halves, .ref a_t_powers, .ref a_t_glasses, .int c_t_count, .int c_t_thingPlace, .int c_t_screenPlace, .int c_t_quarters, .int c_t_refused, .ref a_t_train, .ref a_t_single, .ref a_t_fan, .ref a_t_bending, .ref a_t_opening, .ref a_t_choice]))]) (W1 := []) (ws2 := [(a_t, .inr (8, [.ref a_t_places, .ref a_t_halves, .ref a_t_powers, .ref a_t_glasses, .int c_t_count, .int c_t_thingPlace, .int c_t_screenPlace, .int c_t_quarters, .int c_t_refused, .ref a_t_train, .ref a_t_single, .ref a_t_fan, .ref a_t_bending, .ref a_t_opening, .ref a_t_choice]))]) (va_runS (As := [.int p1]) (rest := []) ⟨hx, hb, hml, hown, hts⟩ (m_X6_needPlace l D cI cD cB p1 o1 e2 _) (va_cwS 1 hts gX6_screen_X6_needPlace rfl rfl rfl (by decide +kernel) ⟨Nat.le_of_ble_eq_true rfl, Nat.le_of_ble_eq_true rfl⟩) (my_preS [] hP hK hNM hZ hD hS hA rfl rfl) rfl rfl hl.1 rfl (lv_room (Nat.le_of_ble_eq_true rfl)) dX6_screen_1 ⟨Nat.zero_le _, Nat.zero_le _⟩) hP hD hS hA [] [0] [0] rfl rfl rfl rfl rfl (by decide) (fun H locs hP hD hS => ?_)
  refine lv_iload_n hx hb dX6_screen_4 rfl (lv_at hl 1 rfl) ?_
  refine lv_aload_n hx hb dX6_screen_5 rfl (lv_at hl 0 rfl) ?_
  refine va_get (D := D) (ci := 8) (v := .int c_t_thingPlace) (C := RX6) (T := TX6) (N := 15) hx hb hts mc_X6_screen_X6 hown hK hP 0 rfl rfl 5 (by decide) (hts _ mf_X6_screen_108) (fun _ h9 => h9) rfl dX6_screen_6 ?_
  refine lv_icmp_gt (tgt := 22) hx hb dX6_screen_9 (by decide) (fun q3 => ?_) (fun q3 => ?_)
  · replace h := ifp h q3
    refine lv_aload_n hx hb dX6_screen_22 rfl (lv_at hl 0 rfl) ?_
    refine va_get (D := D) (ci := 8) (v := .int c_t_screenPlace) (C := RX6) (T := TX6) (N := 15) hx hb hts mc_X6_screen_X6 hown hK hP 0 rfl rfl 6 (by decide) (hts _ mf_X6_screen_22) (fun _ h9 => h9) rfl dX6_screen_23 ?_
    refine lv_istore_n (lv' := [(2, .int c_t_screenPlace), (0, .ref a_t), (1, .int p1)]) hx hb dX6_screen_26 rfl hl (by decide) rfl (fun ls hl => ?_)
    refine lv_aload_n hx hb dX6_screen_27 rfl (lv_at hl 1 rfl) ?_
    refine lv_iload_n hx hb dX6_screen_28 rfl (lv_at hl 2 rfl) ?_
    refine va_put (D := D) (ci := 8) (v := .int p1) (ty := .int) (C := RX6) (T := TX6) (N := 15) hx hb hts mc_X6_screen_X6 tyX6 tyX6_ok nmX6 hown hK hP hD hS 0 rfl rfl 6 (by decide) (hts _ mf_X6_screen_22) (fun _ h9 => h9) rfl (tyX6_ok 6 (by decide)) rfl rfl (Nat.le_of_ble_eq_true rfl) dX6_screen_29 (fun H locs hP hD hS => ?_)
    have hP : va_P D vwCl [(a_t, .inr (8, [.ref a_t_places, .ref a_t_halves, .ref a_t_powers, .ref a_t_glasses, .int c_t_count, .int c_t_thingPlace, .int p1, .int c_t_quarters, .int c_t_refused, .ref a_t_train, .ref a_t_single, .ref a_t_fan, .ref a_t_bending, .ref a_t_opening, .ref a_t_choice]))] H := hP
    have hD : va_D A [(a_t, .inr (8, [.ref a_t_places, .ref a_t_halves, .ref a_t_powers, .ref a_t_glasses, .int c_t_count, .int c_t_thingPlace, .int p1, .int c_t_quarters, .int c_t_refused, .ref a_t_train, .ref a_t_single, .ref a_t_fan, .ref a_t_bending, .ref a_t_opening, .ref a_t_choice]))] := hD
    refine lv_iload_n hx hb dX6_screen_32 rfl (lv_at hl 0 rfl) ?_
    rw [← inr_e h] at hfin
    exact hfin 33 _ _ _ dX6_screen_33 rfl hP hD hS
  · replace h := ifn h q3
    cases h
abbrev rm_X6_signOf : Room := { frames := 0, cells := 0, slots := 0, locals := 0 }
set_option maxHeartbeats 4000000 in
set_option maxRecDepth 100000 in
theorem m_X6_signOf (l : Launch) (D : va_G) (cI cD cB : ClassId) (p1 : Int32) (R : Int32) (h : f_X6_signOf p1 = some R) : Ci l yX6_signOf wsX6_signOf rm_X6_signOf D (TT cI cD cB) [.int p1] [] [] R 0 0 := by
  unfold f_X6_signOf at h
  refine st_i (cc := cX6_signOf) (maxL := 1) (by decide) rfl (Nat.le_of_ble_eq_true rfl) (fun p e s m av below meth c A Q ls hx hb hml hts hown hA hK hNM hZ hP hD hS hl hfin => ?_)
  have hown : s.vm.findClass RX6 = some m.cls := hown
  have hl : lv_has ls 1 [(0, .int p1)] := hl
  refine lv_iload_n hx hb dX6_signOf_0 rfl (lv_at hl 0 rfl) ?_
  refine lv_if_ne (tgt := 7) hx hb dX6_signOf_1 (by decide) (fun q1 => ?_) (fun q1 => ?_)
  · replace h := ifn h q1
    refine lv_iload_n hx hb dX6_signOf_7 rfl (lv_at hl 0 rfl) ?_
    refine lv_if_le (tgt := 16) hx hb dX6_signOf_8 (by decide) (fun q2 => ?_) (fun q2 => ?_)
    · replace h := ifp h q2
      refine lv_bipush (v := (41 : Int32)) hx hb dX6_signOf_16 (by decide) ?_
      rw [← some_e h] at hfin
      exact hfin 18 _ _ _ dX6_signOf_18 rfl hP hD hS
    · replace h := ifn h q2
      refine lv_bipush (v := (40 : Int32)) hx hb dX6_signOf_11 (by decide) ?_
      refine lv_goto (tgt := 18) hx hb dX6_signOf_13 (by decide) ?_
      rw [← some_e h] at hfin
      exact hfin 18 _ _ _ dX6_signOf_18 rfl hP hD hS
  · replace h := ifp h q1
    refine lv_bipush (v := (124 : Int32)) hx hb dX6_signOf_4 (by decide) ?_
    rw [← some_e h] at hfin
    exact hfin 6 _ _ _ dX6_signOf_6 rfl hP hD hS
abbrev rm_X6_stop : Room := { frames := 2, cells := 0, slots := 0, locals := 47 }
set_option maxHeartbeats 4000000 in
set_option maxRecDepth 100000 in
theorem m_X6_stop (l : Launch) (D : va_G) (cI cD cB : ClassId) (a_t : Nat) (a_t_places : Nat) (a_t_halves : Nat) (a_t_powers : Nat) (a_t_glasses : Nat) (a_t_train : Nat) (a_t_single : Nat) (a_t_fan : Nat) (a_t_bending : Nat) (a_t_opening : Nat) (a_t_choice : Nat) (p1 : Int32) (p2 : Int32) (c_t_count : Int32) (c_t_thingPlace : Int32) (c_t_screenPlace : Int32) (c_t_quarters : Int32) (c_t_refused : Int32) (c_t_places : Nat → Int32) (c_t_halves : Nat → Int32) (c_t_powers : Nat → Int32) (c_t_glasses : Nat → Int32) (R : Int32 × Int32 × (Nat → Int32) × (Nat → Int32) × (Nat → Int32) × (Nat → Int32)) (h : f_X6_stop p1 p2 c_t_count c_t_places c_t_halves c_t_powers c_t_glasses = some (.inr R)) : Ci l yX6_stop wsX6_stop rm_X6_stop D (TT cI cD cB) [.ref a_t, .int p1, .int p2] [(a_t, .inr (8, [.ref a_t_places, .ref a_t_halves, .ref a_t_powers, .ref a_t_glasses, .int c_t_count, .int c_t_thingPlace, .int c_t_screenPlace, .int c_t_quarters, .int c_t_refused, .ref a_t_train, .ref a_t_single, .ref a_t_fan, .ref a_t_bending, .ref a_t_opening, .ref a_t_choice])), (a_t_places, .inl (cI, 8, .inl c_t_places)), (a_t_halves, .inl (cI, 8, .inl c_t_halves)), (a_t_powers, .inl (cI, 8, .inl c_t_powers)), (a_t_glasses, .inl (cI, 8, .inl c_t_glasses))] [(a_t, .inr (8, [.ref a_t_places, .ref a_t_halves, .ref a_t_powers, .ref a_t_glasses, .int R.2.1, .int c_t_thingPlace, .int c_t_screenPlace, .int c_t_quarters, .int c_t_refused, .ref a_t_train, .ref a_t_single, .ref a_t_fan, .ref a_t_bending, .ref a_t_opening, .ref a_t_choice])), (a_t_places, .inl (cI, 8, .inl R.2.2.1)), (a_t_halves, .inl (cI, 8, .inl R.2.2.2.1)), (a_t_powers, .inl (cI, 8, .inl R.2.2.2.2.1)), (a_t_glasses, .inl (cI, 8, .inl R.2.2.2.2.2))] R.1 0 0 := by
  unfold f_X6_stop at h
  refine st_i (cc := cX6_stop) (maxL := 3) (by decide) rfl (Nat.le_of_ble_eq_true rfl) (fun p e s m av below meth c A Q ls hx hb hml hts hown hA hK hNM hZ hP hD hS hl hfin => ?_)
  have hown : s.vm.findClass RX6 = some m.cls := hown
  have hl : lv_has ls 3 [(0, .ref a_t), (1, .int p1), (2, .int p2)] := hl
  refine lv_iload_n hx hb dX6_stop_0 rfl (lv_at hl 1 rfl) ?_
  obtain ⟨o1, e2, h⟩ := bx_r h
  refine co_v (W0 := []) (wr := [(a_t, .inr (8, [.ref a_t_places, .ref a_t_halves, .ref a_t_powers, .ref a_t_glasses, .int c_t_count, .int c_t_thingPlace, .int c_t_screenPlace, .int c_t_quarters, .int c_t_refused, .ref a_t_train, .ref a_t_single, .ref a_t_fan, .ref a_t_bending, .ref a_t_opening, .ref a_t_choice])), (a_t_places, .inl (cI, 8, .inl c_t_places)), (a_t_halves, .inl (cI, 8, .inl c_t_halves)), (a_t_powers, .inl (cI, 8, .inl c_t_powers)), (a_t_glasses, .inl (cI, 8, .inl c_t_glasses))]) (W1 := []) (ws2 := [(a_t, .inr (8, [.ref a_t_places, .ref a_t_halves, .ref a_t_powers, .ref a_t_glasses, .int c_t_count, .int c_t_thingPlace, .int c_t_screenPlace, .int c_t_quarters, .int c_t_refused, .ref a_t_train, .ref a_t_single, .ref a_t_fan, .ref a_t_bending, .ref a_t_opening, .ref a_t_choice])), (a_t_places, .inl (cI, 8, .inl c_t_places)), (a_t_halves, .inl (cI, 8, .inl c_t_halves)), (a_t_powers, .inl (cI, 8, .inl c_t_powers)), (a_t_glasses, .inl (cI, 8, .inl c_t_glasses))]) (va_runS (As := [.int p1]) (rest := []) ⟨hx, hb, hml, hown, hts⟩ (m_X6_needPlace l D cI cD cB p1 o1 e2 _) (va_cwS 1 hts gX6_stop_X6_needPlace rfl rfl rfl (by decide +kernel) ⟨Nat.le_of_ble_eq_true rfl, Nat.le_of_ble_eq_true rfl⟩) (my_preS [] hP hK hNM hZ hD hS hA rfl rfl) rfl rfl hl.1 rfl (lv_room (Nat.le_of_ble_eq_true rfl)) dX6_stop_1 ⟨Nat.zero_le _, Nat.zero_le _⟩) hP hD hS hA [] [0, 1, 2, 3, 4] [0, 1, 2, 3, 4] rfl rfl rfl rfl rfl (by decide) (fun H locs hP hD hS => ?_)
  refine lv_iload_n hx hb dX6_stop_4 rfl (lv_at hl 2 rfl) ?_
  obtain ⟨o3, e4, h⟩ := bx_r h
  refine co_v (W0 := []) (wr := [(a_t, .inr (8, [.ref a_t_places, .ref a_t_halves, .ref a_t_powers, .ref a_t_glasses, .int c_t_count, .int c_t_thingPlace, .int c_t_screenPlace, .int c_t_quarters, .int c_t_refused, .ref a_t_train, .ref a_t_single, .ref a_t_fan, .ref a_t_bending, .ref a_t_opening, .ref a_t_choice])), (a_t_places, .inl (cI, 8, .inl c_t_places)), (a_t_halves, .inl (cI, 8, .inl c_t_halves)), (a_t_powers, .inl (cI, 8, .inl c_t_powers)), (a_t_glasses, .inl (cI, 8, .inl c_t_glasses))]) (W1 := []) (ws2 := [(a_t, .inr (8, [.ref a_t_places, .ref a_t_halves, .ref a_t_powers, .ref a_t_glasses, .int c_t_count, .int c_t_thingPlace, .int c_t_screenPlace, .int c_t_quarters, .int c_t_refused, .ref a_t_train, .ref a_t_single, .ref a_t_fan, .ref a_t_bending, .ref a_t_opening, .ref a_t_choice])), (a_t_places, .inl (cI, 8, .inl c_t_places)), (a_t_halves, .inl (cI, 8, .inl c_t_halves)), (a_t_powers, .inl (cI, 8, .inl c_t_powers)), (a_t_glasses, .inl (cI, 8, .inl c_t_glasses))]) (va_runS (As := [.int p2]) (rest := []) ⟨hx, hb, hml, hown, hts⟩ (m_X6_needHalf l D cI cD cB p2 o3 e4 _) (va_cwS 1 hts gX6_stop_X6_needHalf rfl rfl rfl (by decide +kernel) ⟨Nat.le_of_ble_eq_true rfl, Nat.le_of_ble_eq_true rfl⟩) (my_preS [] hP hK hNM hZ hD hS hA rfl rfl) rfl rfl hl.1 rfl (lv_room (Nat.le_of_ble_eq_true rfl)) dX6_stop_5 ⟨Nat.zero_le _, Nat.zero_le _⟩) hP hD hS hA [] [0, 1, 2, 3, 4] [0, 1, 2, 3, 4] rfl rfl rfl rfl rfl (by decide) (fun H locs hP hD hS => ?_)
  refine lv_aload_n hx hb dX6_stop_8 rfl (lv_at hl 0 rfl) ?_
  refine lv_iload_n hx hb dX6_stop_9 rfl (lv_at hl 1 rfl) ?_
  refine lv_iload_n hx hb dX6_stop_10 rfl (lv_at hl 2 rfl) ?_
  refine lv_iconst (v := (0 : Int32)) hx hb dX6_stop_11 (by decide) ?_
  refine lv_iconst (v := (-1 : Int32)) hx hb dX6_stop_12 (by decide) ?_
  obtain ⟨o5, e6, h⟩ := bx_r h
  refine co_i (W0 := [(a_t, .inr (8, [.ref a_t_places, .ref a_t_halves, .ref a_t_powers, .ref a_t_glasses, .int c_t_count, .int c_t_thingPlace, .int c_t_screenPlace, .int c_t_quarters, .int c_t_refused, .ref a_t_train, .ref a_t_single, .ref a_t_fan, .ref a_t_bending, .ref a_t_opening, .ref a_t_choice])), (a_t_places, .inl (cI, 8, .inl c_t_places)), (a_t_halves, .inl (cI, 8, .inl c_t_halves)), (a_t_powers, .inl (cI, 8, .inl c_t_powers)), (a_t_glasses, .inl (cI, 8, .inl c_t_glasses))]) (wr := []) (W1 := [(a_t, .inr (8, [.ref a_t_places, .ref a_t_halves, .ref a_t_powers, .ref a_t_glasses, .int o5.2.1, .int c_t_thingPlace, .int c_t_screenPlace, .int c_t_quarters, .int c_t_refused, .ref a_t_train, .ref a_t_single, .ref a_t_fan, .ref a_t_bending, .ref a_t_opening, .ref a_t_choice])), (a_t_places, .inl (cI, 8, .inl o5.2.2.1)), (a_t_halves, .inl (cI, 8, .inl o5.2.2.2.1)), (a_t_powers, .inl (cI, 8, .inl o5.2.2.2.2.1)), (a_t_glasses, .inl (cI, 8, .inl o5.2.2.2.2.2))]) (ws2 := [(a_t, .inr (8, [.ref a_t_places, .ref a_t_halves, .ref a_t_powers, .ref a_t_glasses, .int o5.2.1, .int c_t_thingPlace, .int c_t_screenPlace, .int c_t_quarters, .int c_t_refused, .ref a_t_train, .ref a_t_single, .ref a_t_fan, .ref a_t_bending, .ref a_t_opening, .ref a_t_choice])), (a_t_places, .inl (cI, 8, .inl o5.2.2.1)), (a_t_halves, .inl (cI, 8, .inl o5.2.2.2.1)), (a_t_powers, .inl (cI, 8, .inl o5.2.2.2.2.1)), (a_t_glasses, .inl (cI, 8, .inl o5.2.2.2.2.2))]) (va_runV (C := RX6) (As := [.int p1, .int p2, .int (0 : Int32), .int (-1 : Int32)]) (rest := []) ⟨hx, hb, hml, hown, hts⟩ (m_X6_put l D cI cD cB a_t a_t_places a_t_halves a_t_powers a_t_glasses a_t_train a_t_single a_t_fan a_t_bending a_t_opening a_t_choice p1 p2 (0 : Int32) (-1 : Int32) c_t_count c_t_thingPlace c_t_screenPlace c_t_quarters c_t_refused c_t_places c_t_halves c_t_powers c_t_glasses o5 e6 _) (cwV 4 hts gX6_stop_X6_put rfl rfl rfl (by decide +kernel) ⟨Nat.le_of_ble_eq_true rfl, Nat.le_of_ble_eq_true rfl⟩) (my_preV (q := (RX6, TX6, 15)) (ci := 8) (q0 := 0) [0, 1, 2, 3, 4] hP hK hNM hZ hD hS hA rfl rfl rfl rfl) rfl rfl hl.1 rfl (lv_room (Nat.le_of_ble_eq_true rfl)) dX6_stop_13 ⟨Nat.zero_le _, Nat.zero_le _⟩) hP hD hS hA [0, 1, 2, 3, 4] [] [0, 1, 2, 3, 4] rfl rfl rfl rfl rfl (by decide) (fun H locs hP hD hS => ?_)
  rw [← inr_e h] at hfin
  exact hfin 16 _ _ _ dX6_stop_16 rfl hP hD hS
theorem mc_X6_swap_X6 : ∀ w ∈ wsX60, w ∈ wsX6_swap := by decide +kernel
theorem mf_X6_swap_9 : Cond.fieldLink RX6 9 "Lensbench" "places" "[I" ∈ wsX6_swap := by decide +kernel
abbrev rm_X6_swap : Room := { frames := 2, cells := 0, slots := 0, locals := 42 }
set_option maxHeartbeats 4000000 in
set_option maxRecDepth 100000 in
theorem m_X6_swap (l : Launch) (D : va_G) (cI cD cB : ClassId) (a_t : Nat) (a_t_places : Nat) (a_t_halves : Nat) (a_t_powers : Nat) (a_t_glasses : Nat) (a_t_train : Nat) (a_t_single : Nat) (a_t_fan : Nat) (a_t_bending : Nat) (a_t_opening : Nat) (a_t_choice : Nat) (p1 : Int32) (p2 : Int32) (c_t_count : Int32) (c_t_thingPlace : Int32) (c_t_screenPlace : Int32) (c_t_quarters : Int32) (c_t_refused : Int32) (c_t_places : Nat → Int32) (R : Int32 × (Nat → Int32)) (h : f_X6_swap p1 p2 c_t_count c_t_places = some (.inr R)) : Ci l yX6_swap wsX6_swap rm_X6_swap D (TT cI cD cB) [.ref a_t, .int p1, .int p2] [(a_t, .inr (8, [.ref a_t_places, .ref a_t_halves, .ref a_t_powers, .ref a_t_glasses, .int c_t_count, .int c_t_thingPlace, .int c_t_screenPlace, .int c_t_quarters, .int c_t_refused, .ref a_t_train, .ref a_t_single, .ref a_t_fan, .ref a_t_bending, .ref a_t_opening, .ref a_t_choice])), (a_t_places, .inl (cI, 8, .inl c_t_places))] [(a_t, .inr (8, [.ref a_t_places, .ref a_t_halves, .ref a_t_powers, .ref a_t_glasses, .int c_t_count, .int c_t_thingPlace, .int c_t_screenPlace, .int c_t_quarters, .int c_t_refused, .ref a_t_train, .ref a_t_single, .ref a_t_fan, .ref a_t_bending, .ref a_t_opening, .ref a_t_choice])), (a_t_places, .inl (cI, 8, .inl R.2))] R.1 0 0 := by
  unfold f_X6_swap at h
  refine st_i (cc := cX6_swap) (maxL := 4) (by decide) rfl (Nat.le_of_ble_eq_true rfl) (fun p e s m av below meth c A Q ls hx hb hml hts hown hA hK hNM hZ hP hD hS hl hfin => ?_)
  have hown : s.vm.findClass RX6 = some m.cls := hown
  have hl : lv_has ls 4 [(0, .ref a_t), (1, .int p1), (2, .int p2)] := hl
  refine lv_aload_n hx hb dX6_swap_0 rfl (lv_at hl 0 rfl) ?_
  refine lv_iload_n hx hb dX6_swap_1 rfl (lv_at hl 1 rfl) ?_
  obtain ⟨o1, e2, h⟩ := bx_r h
  refine co_v (W0 := [(a_t, .inr (8, [.ref a_t_places, .ref a_t_halves, .ref a_t_powers, .ref a_t_glasses, .int c_t_count, .int c_t_thingPlace, .int c_t_screenPlace, .int c_t_quarters, .int c_t_refused, .ref a_t_train, .ref a_t_single, .ref a_t_fan, .ref a_t_bending, .ref a_t_opening, .ref a_t_choice]))]) (wr := [(a_t_places, .inl (cI, 8, .inl c_t_places))]) (W1 := [(a_t, .inr (8, [.ref a_t_places, .ref a_t_halves, .ref a_t_powers, .ref a_t_glasses, .int c_t_count, .int c_t_thingPlace, .int c_t_screenPlace, .int c_t_quarters, .int c_t_refused, .ref a_t_train, .ref a_t_single, .ref a_t_fan, .ref a_t_bending, .ref a_t_opening, .ref a_t_choice]))]) (ws2 := [(a_t, .inr (8, [.ref a_t_places, .ref a_t_halves, .ref a_t_powers, .ref a_t_glasses, .int c_t_count, .int c_t_thingPlace, .int c_t_screenPlace, .int c_t_quarters, .int c_t_refused, .ref a_t_train, .ref a_t_single, .ref a_t_fan, .ref a_t_bending, .ref a_t_opening, .ref a_t_choice])), (a_t_places, .inl (cI, 8, .inl c_t_places))]) (va_runV (C := RX6) (As := [.int p1]) (rest := []) ⟨hx, hb, hml, hown, hts⟩ (m_X6_needPiece l D cI cD cB a_t a_t_places a_t_halves a_t_powers a_t_glasses a_t_train a_t_single a_t_fan a_t_bending a_t_opening a_t_choice p1 c_t_count c_t_thingPlace c_t_screenPlace c_t_quarters c_t_refused o1 e2 _) (cwV 1 hts gX6_swap_X6_needPiece rfl rfl rfl (by decide +kernel) ⟨Nat.le_of_ble_eq_true rfl, Nat.le_of_ble_eq_true rfl⟩) (my_preV (q := (RX6, TX6, 15)) (ci := 8) (q0 := 0) [0] hP hK hNM hZ hD hS hA rfl rfl rfl rfl) rfl rfl hl.1 rfl (lv_room (Nat.le_of_ble_eq_true rfl)) dX6_swap_2 ⟨Nat.zero_le _, Nat.zero_le _⟩) hP hD hS hA [0] [1] [1, 0] rfl rfl rfl rfl rfl (by decide) (fun H locs hP hD hS => ?_)
  refine lv_aload_n hx hb dX6_swap_5 rfl (lv_at hl 0 rfl) ?_
  refine lv_iload_n hx hb dX6_swap_6 rfl (lv_at hl 2 rfl) ?_
  obtain ⟨o3, e4, h⟩ := bx_r h
  refine co_v (W0 := [(a_t, .inr (8, [.ref a_t_places, .ref a_t_halves, .ref a_t_powers, .ref a_t_glasses, .int c_t_count, .int c_t_thingPlace, .int c_t_screenPlace, .int c_t_quarters, .int c_t_refused, .ref a_t_train, .ref a_t_single, .ref a_t_fan, .ref a_t_bending, .ref a_t_opening, .ref a_t_choice]))]) (wr := [(a_t_places, .inl (cI, 8, .inl c_t_places))]) (W1 := [(a_t, .inr (8, [.ref a_t_places, .ref a_t_halves, .ref a_t_powers, .ref a_t_glasses, .int c_t_count, .int c_t_thingPlace, .int c_t_screenPlace, .int c_t_quarters, .int c_t_refused, .ref a_t_train, .ref a_t_single, .ref a_t_fan, .ref a_t_bending, .ref a_t_opening, .ref a_t_choice]))]) (ws2 := [(a_t, .inr (8, [.ref a_t_places, .ref a_t_halves, .ref a_t_powers, .ref a_t_glasses, .int c_t_count, .int c_t_thingPlace, .int c_t_screenPlace, .int c_t_quarters, .int c_t_refused, .ref a_t_train, .ref a_t_single, .ref a_t_fan, .ref a_t_bending, .ref a_t_opening, .ref a_t_choice])), (a_t_places, .inl (cI, 8, .inl c_t_places))]) (va_runV (C := RX6) (As := [.int p2]) (rest := []) ⟨hx, hb, hml, hown, hts⟩ (m_X6_needPiece l D cI cD cB a_t a_t_places a_t_halves a_t_powers a_t_glasses a_t_train a_t_single a_t_fan a_t_bending a_t_opening a_t_choice p2 c_t_count c_t_thingPlace c_t_screenPlace c_t_quarters c_t_refused o3 e4 _) (cwV 1 hts gX6_swap_X6_needPiece rfl rfl rfl (by decide +kernel) ⟨Nat.le_of_ble_eq_true rfl, Nat.le_of_ble_eq_true rfl⟩) (my_preV (q := (RX6, TX6, 15)) (ci := 8) (q0 := 0) [0] hP hK hNM hZ hD hS hA rfl rfl rfl rfl) rfl rfl hl.1 rfl (lv_room (Nat.le_of_ble_eq_true rfl)) dX6_swap_7 ⟨Nat.zero_le _, Nat.zero_le _⟩) hP hD hS hA [0] [1] [1, 0] rfl rfl rfl rfl rfl (by decide) (fun H locs hP hD hS => ?_)
  refine lv_aload_n hx hb dX6_swap_10 rfl (lv_at hl 0 rfl) ?_
  refine va_get (D := D) (ci := 8) (v := .ref a_t_places) (C := RX6) (T := TX6) (N := 15) hx hb hts mc_X6_swap_X6 hown hK hP 0 rfl rfl 0 (by decide) (hts _ mf_X6_swap_9) (fun _ h9 => h9) rfl dX6_swap_11 ?_
  refine lv_iload_n hx hb dX6_swap_14 rfl (lv_at hl 1 rfl) ?_
  obtain ⟨g5, h⟩ := gd_e h
  refine va_iald hx hb hK hP 1 0 rfl rfl (vin_in g5) dX6_swap_15 ?_
  refine lv_istore_n (lv' := [(3, .int (c_t_places (p1).toNatClampNeg)), (0, .ref a_t), (1, .int p1), (2, .int p2)]) hx hb dX6_swap_16 rfl hl (by decide) rfl (fun ls hl => ?_)
  refine lv_aload_n hx hb dX6_swap_17 rfl (lv_at hl 1 rfl) ?_
  refine va_get (D := D) (ci := 8) (v := .ref a_t_places) (C := RX6) (T := TX6) (N := 15) hx hb hts mc_X6_swap_X6 hown hK hP 0 rfl rfl 0 (by decide) (hts _ mf_X6_swap_9) (fun _ h9 => h9) rfl dX6_swap_18 ?_
  refine lv_iload_n hx hb dX6_swap_21 rfl (lv_at hl 2 rfl) ?_
  refine lv_aload_n hx hb dX6_swap_22 rfl (lv_at hl 1 rfl) ?_
  refine va_get (D := D) (ci := 8) (v := .ref a_t_places) (C := RX6) (T := TX6) (N := 15) hx hb hts mc_X6_swap_X6 hown hK hP 0 rfl rfl 0 (by decide) (hts _ mf_X6_swap_9) (fun _ h9 => h9) rfl dX6_swap_23 ?_
  refine lv_iload_n hx hb dX6_swap_26 rfl (lv_at hl 3 rfl) ?_
  obtain ⟨g6, h⟩ := gd_e h
  refine va_iald hx hb hK hP 1 0 rfl rfl (vin_in g6) dX6_swap_27 ?_
  obtain ⟨g7, h⟩ := gd_e h
  refine va_iast hx hb hK hP hD hS 1 0 rfl rfl (vin_in g7) dX6_swap_28 (fun H locs hP hD hS => ?_)
  have hP : va_P D vwCl [(a_t, .inr (8, [.ref a_t_places, .ref a_t_halves, .ref a_t_powers, .ref a_t_glasses, .int c_t_count, .int c_t_thingPlace, .int c_t_screenPlace, .int c_t_quarters, .int c_t_refused, .ref a_t_train, .ref a_t_single, .ref a_t_fan, .ref a_t_bending, .ref a_t_opening, .ref a_t_choice])), (a_t_places, .inl (cI, 8, .inl (upd c_t_places (p1).toNatClampNeg (c_t_places (p2).toNatClampNeg))))] H := hP
  have hD : va_D A [(a_t, .inr (8, [.ref a_t_places, .ref a_t_halves, .ref a_t_powers, .ref a_t_glasses, .int c_t_count, .int c_t_thingPlace, .int c_t_screenPlace, .int c_t_quarters, .int c_t_refused, .ref a_t_train, .ref a_t_single, .ref a_t_fan, .ref a_t_bending, .ref a_t_opening, .ref a_t_choice])), (a_t_places, .inl (cI, 8, .inl (upd c_t_places (p1).toNatClampNeg (c_t_places (p2).toNatClampNeg))))] := hD
  refine lv_aload_n hx hb dX6_swap_29 rfl (lv_at hl 1 rfl) ?_
  refine va_get (D := D) (ci := 8) (v := .ref a_t_places) (C := RX6) (T := TX6) (N := 15) hx hb hts mc_X6_swap_X6 hown hK hP 0 rfl rfl 0 (by decide) (hts _ mf_X6_swap_9) (fun _ h9 => h9) rfl dX6_swap_30 ?_
  refine lv_iload_n hx hb dX6_swap_33 rfl (lv_at hl 3 rfl) ?_
  refine lv_iload_n hx hb dX6_swap_34 rfl (lv_at hl 0 rfl) ?_
  obtain ⟨g8, h⟩ := gd_e h
  refine va_iast hx hb hK hP hD hS 1 0 rfl rfl (vin_in g8) dX6_swap_35 (fun H locs hP hD hS => ?_)
  have hP : va_P D vwCl [(a_t, .inr (8, [.ref a_t_places, .ref a_t_halves, .ref a_t_powers, .ref a_t_glasses, .int c_t_count, .int c_t_thingPlace, .int c_t_screenPlace, .int c_t_quarters, .int c_t_refused, .ref a_t_train, .ref a_t_single, .ref a_t_fan, .ref a_t_bending, .ref a_t_opening, .ref a_t_choice])), (a_t_places, .inl (cI, 8, .inl (upd (upd c_t_places (p1).toNatClampNeg (c_t_places (p2).toNatClampNeg)) (p2).toNatClampNeg (c_t_places (p1).toNatClampNeg))))] H := hP
  have hD : va_D A [(a_t, .inr (8, [.ref a_t_places, .ref a_t_halves, .ref a_t_powers, .ref a_t_glasses, .int c_t_count, .int c_t_thingPlace, .int c_t_screenPlace, .int c_t_quarters, .int c_t_refused, .ref a_t_train, .ref a_t_single, .ref a_t_fan, .ref a_t_bending, .ref a_t_opening, .ref a_t_choice])), (a_t_places, .inl (cI, 8, .inl (upd (upd c_t_places (p1).toNatClampNeg (c_t_places (p2).toNatClampNeg)) (p2).toNatClampNeg (c_t_places (p1).toNatClampNeg))))] := hD
  refine lv_aload_n hx hb dX6_swap_36 rfl (lv_at hl 1 rfl) ?_
  refine va_get (D := D) (ci := 8) (v := .ref a_t_places) (C := RX6) (T := TX6) (N := 15) hx hb hts mc_X6_swap_X6 hown hK hP 0 rfl rfl 0 (by decide) (hts _ mf_X6_swap_9) (fun _ h9 => h9) rfl dX6_swap_37 ?_
  refine lv_iload_n hx hb dX6_swap_40 rfl (lv_at hl 2 rfl) ?_
  obtain ⟨g9, h⟩ := gd_e h
  refine va_iald hx hb hK hP 1 0 rfl rfl (vin_in g9) dX6_swap_41 ?_
  rw [← inr_e h] at hfin
  exact hfin 42 _ _ _ dX6_swap_42 rfl hP hD hS
theorem mc_X6_take_X6 : ∀ w ∈ wsX60, w ∈ wsX6_take := by decide +kernel
theorem mf_X6_take_13 : Cond.fieldLink RX6 13 "Lensbench" "halves" "[I" ∈ wsX6_take := by decide +kernel
theorem mf_X6_take_16 : Cond.fieldLink RX6 16 "Lensbench" "powers" "[I" ∈ wsX6_take := by decide +kernel
theorem mf_X6_take_19 : Cond.fieldLink RX6 19 "Lensbench" "glasses" "[I" ∈ wsX6_take := by decide +kernel
theorem mf_X6_take_9 : Cond.fieldLink RX6 9 "Lensbench" "places" "[I" ∈ wsX6_take := by decide +kernel
theorem mf_X6_take_94 : Cond.fieldLink RX6 94 "Lensbench" "count" "I" ∈ wsX6_take := by decide +kernel
abbrev rm_X6_take : Room := { frames := 2, cells := 0, slots := 0, locals := 42 }
set_option maxHeartbeats 4000000 in
set_option maxRecDepth 100000 in
theorem m_X6_take (l : Launch) (D : va_G) (cI cD cB : ClassId) (a_t : Nat) (a_t_places : Nat) (a_t_halves : Nat) (a_t_powers : Nat) (a_t_glasses : Nat) (a_t_train : Nat) (a_t_single : Nat) (a_t_fan : Nat) (a_t_bending : Nat) (a_t_opening : Nat) (a_t_choice : Nat) (p1 : Int32) (c_t_count : Int32) (c_t_thingPlace : Int32) (c_t_screenPlace : Int32) (c_t_quarters : Int32) (c_t_refused : Int32) (c_t_places : Nat → Int32) (c_t_halves : Nat → Int32) (c_t_powers : Nat → Int32) (c_t_glasses : Nat → Int32) (R : Int32 × Int32 × (Nat → Int32) × (Nat → Int32) × (Nat → Int32) × (Nat → Int32)) (h : f_X6_take p1 c_t_count c_t_places c_t_halves c_t_powers c_t_glasses = some (.inr R)) : Ci l yX6_take wsX6_take rm_X6_take D (TT cI cD cB) [.ref a_t, .int p1] [(a_t, .inr (8, [.ref a_t_places, .ref a_t_halves, .ref a_t_powers, .ref a_t_glasses, .int c_t_count, .int c_t_thingPlace, .int c_t_screenPlace, .int c_t_quarters, .int c_t_refused, .ref a_t_train, .ref a_t_single, .ref a_t_fan, .ref a_t_bending, .ref a_t_opening, .ref a_t_choice])), (a_t_places, .inl (cI, 8, .inl c_t_places)), (a_t_halves, .inl (cI, 8, .inl c_t_halves)), (a_t_powers, .inl (cI, 8, .inl c_t_powers)), (a_t_glasses, .inl (cI, 8, .inl c_t_glasses))] [(a_t, .inr (8, [.ref a_t_places, .ref a_t_halves, .ref a_t_powers, .ref a_t_glasses, .int R.2.1, .int c_t_thingPlace, .int c_t_screenPlace, .int c_t_quarters, .int c_t_refused, .ref a_t_train, .ref a_t_single, .ref a_t_fan, .ref a_t_bending, .ref a_t_opening, .ref a_t_choice])), (a_t_places, .inl (cI, 8, .inl R.2.2.1)), (a_t_halves, .inl (cI, 8, .inl R.2.2.2.1)), (a_t_powers, .inl (cI, 8, .inl R.2.2.2.2.1)), (a_t_glasses, .inl (cI, 8, .inl R.2.2.2.2.2))] R.1 0 0 := by
  unfold f_X6_take at h
  refine st_i (cc := cX6_take) (maxL := 4) (by decide) rfl (Nat.le_of_ble_eq_true rfl) (fun p e s m av below meth c A Q ls hx hb hml hts hown hA hK hNM hZ hP hD hS hl hfin => ?_)
  have hown : s.vm.findClass RX6 = some m.cls := hown
  have hl : lv_has ls 4 [(0, .ref a_t), (1, .int p1)] := hl
  refine lv_aload_n hx hb dX6_take_0 rfl (lv_at hl 0 rfl) ?_
  refine lv_iload_n hx hb dX6_take_1 rfl (lv_at hl 1 rfl) ?_
  obtain ⟨o1, e2, h⟩ := bx_r h
  refine co_v (W0 := [(a_t, .inr (8, [.ref a_t_places, .ref a_t_halves, .ref a_t_powers, .ref a_t_glasses, .int c_t_count, .int c_t_thingPlace, .int c_t_screenPlace, .int c_t_quarters, .int c_t_refused, .ref a_t_train, .ref a_t_single, .ref a_t_fan, .ref a_t_bending, .ref a_t_opening, .ref a_t_choice]))]) (wr := [(a_t_places, .inl (cI, 8, .inl c_t_places)), (a_t_halves, .inl (cI, 8, .inl c_t_halves)), (a_t_powers, .inl (cI, 8, .inl c_t_powers)), (a_t_glasses, .inl (cI, 8, .inl c_t_glasses))]) (W1 := [(a_t, .inr (8, [.ref a_t_places, .ref a_t_halves, .ref a_t_powers, .ref a_t_glasses, .int c_t_count, .int c_t_thingPlace, .int c_t_screenPlace, .int c_t_quarters, .int c_t_refused, .ref a_t_train, .ref a_t_single, .ref a_t_fan, .ref a_t_bending, .ref a_t_opening, .ref a_t_choice]))]) (ws2 := [(a_t, .inr (8, [.ref a_t_places, .ref a_t_halves, .ref a_t_powers, .ref a_t_glasses, .int c_t_count, .int c_t_thingPlace, .int c_t_screenPlace, .int c_t_quarters, .int c_t_refused, .ref a_t_train, .ref a_t_single, .ref a_t_fan, .ref a_t_bending, .ref a_t_opening, .ref a_t_choice])), (a_t_places, .inl (cI, 8, .inl c_t_places)), (a_t_halves, .inl (cI, 8, .inl c_t_halves)), (a_t_powers, .inl (cI, 8, .inl c_t_powers)), (a_t_glasses, .inl (cI, 8, .inl c_t_glasses))]) (va_runV (C := RX6) (As := [.int p1]) (rest := []) ⟨hx, hb, hml, hown, hts⟩ (m_X6_needPiece l D cI cD cB a_t a_t_places a_t_halves a_t_powers a_t_glasses a_t_train a_t_single a_t_fan a_t_bending a_t_opening a_t_choice p1 c_t_count c_t_thingPlace c_t_screenPlace c_t_quarters c_t_refused o1 e2 _) (cwV 1 hts gX6_take_X6_needPiece rfl rfl rfl (by decide +kernel) ⟨Nat.le_of_ble_eq_true rfl, Nat.le_of_ble_eq_true rfl⟩) (my_preV (q := (RX6, TX6, 15)) (ci := 8) (q0 := 0) [0] hP hK hNM hZ hD hS hA rfl rfl rfl rfl) rfl rfl hl.1 rfl (lv_room (Nat.le_of_ble_eq_true rfl)) dX6_take_2 ⟨Nat.zero_le _, Nat.zero_le _⟩) hP hD hS hA [0] [1, 2, 3, 4] [4, 0, 1, 2, 3] rfl rfl rfl rfl rfl (by decide) (fun H locs hP hD hS => ?_)
  refine lv_aload_n hx hb dX6_take_5 rfl (lv_at hl 0 rfl) ?_
  refine va_get (D := D) (ci := 8) (v := .ref a_t_places) (C := RX6) (T := TX6) (N := 15) hx hb hts mc_X6_take_X6 hown hK hP 0 rfl rfl 0 (by decide) (hts _ mf_X6_take_9) (fun _ h9 => h9) rfl dX6_take_6 ?_
  refine lv_iload_n hx hb dX6_take_9 rfl (lv_at hl 1 rfl) ?_
  obtain ⟨g3, h⟩ := gd_e h
  refine va_iald hx hb hK hP 1 0 rfl rfl (vin_in g3) dX6_take_10 ?_
  refine lv_istore_n (lv' := [(2, .int (c_t_places (p1).toNatClampNeg)), (0, .ref a_t), (1, .int p1)]) hx hb dX6_take_11 rfl hl (by decide) rfl (fun ls hl => ?_)
  refine lv_iload_n hx hb dX6_take_12 rfl (lv_at hl 2 rfl) ?_
  refine lv_iconst (v := (1 : Int32)) hx hb dX6_take_13 (by decide) ?_
  refine lv_iadd hx hb dX6_take_14 ?_
  refine lv_istore_n (lv' := [(3, .int (p1 + (1 : Int32))), (2, .int (c_t_places (p1).toNatClampNeg)), (0, .ref a_t), (1, .int p1)]) hx hb dX6_take_15 rfl hl (by decide) rfl (fun ls hl => ?_)
  have LOOP1 : ∀ (n1 : Nat) (s1 : Int32 × (Nat → Int32) × (Nat → Int32) × (Nat → Int32) × (Nat → Int32)) (H : Heap) (locs : List Loc) (ls : Array Slot), va_P D vwCl [(a_t, .inr (8, [.ref a_t_places, .ref a_t_halves, .ref a_t_powers, .ref a_t_glasses, .int c_t_count, .int c_t_thingPlace, .int c_t_screenPlace, .int c_t_quarters, .int c_t_refused, .ref a_t_train, .ref a_t_single, .ref a_t_fan, .ref a_t_bending, .ref a_t_opening, .ref a_t_choice])), (a_t_places, .inl (cI, 8, .inl s1.2.1)), (a_t_halves, .inl (cI, 8, .inl s1.2.2.1)), (a_t_powers, .inl (cI, 8, .inl s1.2.2.2.1)), (a_t_glasses, .inl (cI, 8, .inl s1.2.2.2.2))] H → va_D A [(a_t, .inr (8, [.ref a_t_places, .ref a_t_halves, .ref a_t_powers, .ref a_t_glasses, .int c_t_count, .int c_t_thingPlace, .int c_t_screenPlace, .int c_t_quarters, .int c_t_refused, .ref a_t_train, .ref a_t_single, .ref a_t_fan, .ref a_t_bending, .ref a_t_opening, .ref a_t_choice])), (a_t_places, .inl (cI, 8, .inl s1.2.1)), (a_t_halves, .inl (cI, 8, .inl s1.2.2.1)), (a_t_powers, .inl (cI, 8, .inl s1.2.2.2.1)), (a_t_glasses, .inl (cI, 8, .inl s1.2.2.2.2))] → va_S A s.heap H locs → lv_has ls 4 [(3, .int s1.1), (2, .int (c_t_places (p1).toNatClampNeg)), (0, .ref a_t), (1, .int p1)] → lp (f_X6_take_b1 p1 c_t_count c_t_places) n1 s1 = some (.inr R) → W p l e rm_X6_take s m av below meth c H locs 0 0 Q (F0 m 16 ls []) := by
    intro n1
    induction n1 with
    | zero => intro s1 H locs ls hP hD hS hl h; exact lp_0 h
    | succ n1 ih1 =>
      intro s1 H locs ls hP hD hS hl h
      replace h := lp_s h
      unfold f_X6_take_b1 at h
      refine lv_iload_n hx hb dX6_take_16 rfl (lv_at hl 0 rfl) ?_
      refine lv_aload_n hx hb dX6_take_17 rfl (lv_at hl 2 rfl) ?_
      refine va_get (D := D) (ci := 8) (v := .int c_t_count) (C := RX6) (T := TX6) (N := 15) hx hb hts mc_X6_take_X6 hown hK hP 0 rfl rfl 4 (by decide) (hts _ mf_X6_take_94) (fun _ h9 => h9) rfl dX6_take_18 ?_
      refine lv_icmp_ge (tgt := 86) hx hb dX6_take_21 (by decide) (fun q4 => ?_) (fun q4 => ?_)
      · replace h := ifp h q4
        refine lv_aload_n hx hb dX6_take_86 rfl (lv_at hl 2 rfl) ?_
        refine lv_dup hx hb dX6_take_87 rfl ?_
        refine va_get (D := D) (ci := 8) (v := .int c_t_count) (C := RX6) (T := TX6) (N := 15) hx hb hts mc_X6_take_X6 hown hK hP 0 rfl rfl 4 (by decide) (hts _ mf_X6_take_94) (fun _ h9 => h9) rfl dX6_take_88 ?_
        refine lv_iconst (v := (1 : Int32)) hx hb dX6_take_91 (by decide) ?_
        refine lv_isub hx hb dX6_take_92 ?_
        refine va_put (D := D) (ci := 8) (v := .int (c_t_count - (1 : Int32))) (ty := .int) (C := RX6) (T := TX6) (N := 15) hx hb hts mc_X6_take_X6 tyX6 tyX6_ok nmX6 hown hK hP hD hS 0 rfl rfl 4 (by decide) (hts _ mf_X6_take_94) (fun _ h9 => h9) rfl (tyX6_ok 4 (by decide)) rfl rfl (Nat.le_of_ble_eq_true rfl) dX6_take_93 (fun H locs hP hD hS => ?_)
        have hP : va_P D vwCl [(a_t, .inr (8, [.ref a_t_places, .ref a_t_halves, .ref a_t_powers, .ref a_t_glasses, .int (c_t_count - (1 : Int32)), .int c_t_thingPlace, .int c_t_screenPlace, .int c_t_quarters, .int c_t_refused, .ref a_t_train, .ref a_t_single, .ref a_t_fan, .ref a_t_bending, .ref a_t_opening, .ref a_t_choice])), (a_t_places, .inl (cI, 8, .inl s1.2.1)), (a_t_halves, .inl (cI, 8, .inl s1.2.2.1)), (a_t_powers, .inl (cI, 8, .inl s1.2.2.2.1)), (a_t_glasses, .inl (cI, 8, .inl s1.2.2.2.2))] H := hP
        have hD : va_D A [(a_t, .inr (8, [.ref a_t_places, .ref a_t_halves, .ref a_t_powers, .ref a_t_glasses, .int (c_t_count - (1 : Int32)), .int c_t_thingPlace, .int c_t_screenPlace, .int c_t_quarters, .int c_t_refused, .ref a_t_train, .ref a_t_single, .ref a_t_fan, .ref a_t_bending, .ref a_t_opening, .ref a_t_choice])), (a_t_places, .inl (cI, 8, .inl s1.2.1)), (a_t_halves, .inl (cI, 8, .inl s1.2.2.1)), (a_t_powers, .inl (cI, 8, .inl s1.2.2.2.1)), (a_t_glasses, .inl (cI, 8, .inl s1.2.2.2.2))] := hD
        refine lv_iload_n hx hb dX6_take_96 rfl (lv_at hl 1 rfl) ?_
        rw [← inr_e h] at hfin
        exact hfin 97 _ _ _ dX6_take_97 rfl hP hD hS
      · replace h := ifn h q4
        refine lv_aload_n hx hb dX6_take_24 rfl (lv_at hl 2 rfl) ?_
        refine va_get (D := D) (ci := 8) (v := .ref a_t_places) (C := RX6) (T := TX6) (N := 15) hx hb hts mc_X6_take_X6 hown hK hP 0 rfl rfl 0 (by decide) (hts _ mf_X6_take_9) (fun _ h9 => h9) rfl dX6_take_25 ?_
        refine lv_iload_n hx hb dX6_take_28 rfl (lv_at hl 0 rfl) ?_
        refine lv_iconst (v := (1 : Int32)) hx hb dX6_take_29 (by decide) ?_
        refine lv_isub hx hb dX6_take_30 ?_
        refine lv_aload_n hx hb dX6_take_31 rfl (lv_at hl 2 rfl) ?_
        refine va_get (D := D) (ci := 8) (v := .ref a_t_places) (C := RX6) (T := TX6) (N := 15) hx hb hts mc_X6_take_X6 hown hK hP 0 rfl rfl 0 (by decide) (hts _ mf_X6_take_9) (fun _ h9 => h9) rfl dX6_take_32 ?_
        refine lv_iload_n hx hb dX6_take_35 rfl (lv_at hl 0 rfl) ?_
        obtain ⟨g5, h⟩ := gd_e h
        refine va_iald hx hb hK hP 1 0 rfl rfl (vin_in g5) dX6_take_36 ?_
        obtain ⟨g6, h⟩ := gd_e h
        refine va_iast hx hb hK hP hD hS 1 0 rfl rfl (vin_in g6) dX6_take_37 (fun H locs hP hD hS => ?_)
        have hP : va_P D vwCl [(a_t, .inr (8, [.ref a_t_places, .ref a_t_halves, .ref a_t_powers, .ref a_t_glasses, .int c_t_count, .int c_t_thingPlace, .int c_t_screenPlace, .int c_t_quarters, .int c_t_refused, .ref a_t_train, .ref a_t_single, .ref a_t_fan, .ref a_t_bending, .ref a_t_opening, .ref a_t_choice])), (a_t_places, .inl (cI, 8, .inl (upd s1.2.1 ((s1.1 - (1 : Int32))).toNatClampNeg (s1.2.1 (s1.1).toNatClampNeg)))), (a_t_halves, .inl (cI, 8, .inl s1.2.2.1)), (a_t_powers, .inl (cI, 8, .inl s1.2.2.2.1)), (a_t_glasses, .inl (cI, 8, .inl s1.2.2.2.2))] H := hP
        have hD : va_D A [(a_t, .inr (8, [.ref a_t_places, .ref a_t_halves, .ref a_t_powers, .ref a_t_glasses, .int c_t_count, .int c_t_thingPlace, .int c_t_screenPlace, .int c_t_quarters, .int c_t_refused, .ref a_t_train, .ref a_t_single, .ref a_t_fan, .ref a_t_bending, .ref a_t_opening, .ref a_t_choice])), (a_t_places, .inl (cI, 8, .inl (upd s1.2.1 ((s1.1 - (1 : Int32))).toNatClampNeg (s1.2.1 (s1.1).toNatClampNeg)))), (a_t_halves, .inl (cI, 8, .inl s1.2.2.1)), (a_t_powers, .inl (cI, 8, .inl s1.2.2.2.1)), (a_t_glasses, .inl (cI, 8, .inl s1.2.2.2.2))] := hD
        refine lv_aload_n hx hb dX6_take_38 rfl (lv_at hl 2 rfl) ?_
        refine va_get (D := D) (ci := 8) (v := .ref a_t_halves) (C := RX6) (T := TX6) (N := 15) hx hb hts mc_X6_take_X6 hown hK hP 0 rfl rfl 1 (by decide) (hts _ mf_X6_take_13) (fun _ h9 => h9) rfl dX6_take_39 ?_
        refine lv_iload_n hx hb dX6_take_42 rfl (lv_at hl 0 rfl) ?_
        refine lv_iconst (v := (1 : Int32)) hx hb dX6_take_43 (by decide) ?_
        refine lv_isub hx hb dX6_take_44 ?_
        refine lv_aload_n hx hb dX6_take_45 rfl (lv_at hl 2 rfl) ?_
        refine va_get (D := D) (ci := 8) (v := .ref a_t_halves) (C := RX6) (T := TX6) (N := 15) hx hb hts mc_X6_take_X6 hown hK hP 0 rfl rfl 1 (by decide) (hts _ mf_X6_take_13) (fun _ h9 => h9) rfl dX6_take_46 ?_
        refine lv_iload_n hx hb dX6_take_49 rfl (lv_at hl 0 rfl) ?_
        obtain ⟨g7, h⟩ := gd_e h
        refine va_iald hx hb hK hP 2 0 rfl rfl (vin_in g7) dX6_take_50 ?_
        obtain ⟨g8, h⟩ := gd_e h
        refine va_iast hx hb hK hP hD hS 2 0 rfl rfl (vin_in g8) dX6_take_51 (fun H locs hP hD hS => ?_)
        have hP : va_P D vwCl [(a_t, .inr (8, [.ref a_t_places, .ref a_t_halves, .ref a_t_powers, .ref a_t_glasses, .int c_t_count, .int c_t_thingPlace, .int c_t_screenPlace, .int c_t_quarters, .int c_t_refused, .ref a_t_train, .ref a_t_single, .ref a_t_fan, .ref a_t_bending, .ref a_t_opening, .ref a_t_choice])), (a_t_places, .inl (cI, 8, .inl (upd s1.2.1 ((s1.1 - (1 : Int32))).toNatClampNeg (s1.2.1 (s1.1).toNatClampNeg)))), (a_t_halves, .inl (cI, 8, .inl (upd s1.2.2.1 ((s1.1 - (1 : Int32))).toNatClampNeg (s1.2.2.1 (s1.1).toNatClampNeg)))), (a_t_powers, .inl (cI, 8, .inl s1.2.2.2.1)), (a_t_glasses, .inl (cI, 8, .inl s1.2.2.2.2))] H := hP
        have hD : va_D A [(a_t, .inr (8, [.ref a_t_places, .ref a_t_halves, .ref a_t_powers, .ref a_t_glasses, .int c_t_count, .int c_t_thingPlace, .int c_t_screenPlace, .int c_t_quarters, .int c_t_refused, .ref a_t_train, .ref a_t_single, .ref a_t_fan, .ref a_t_bending, .ref a_t_opening, .ref a_t_choice])), (a_t_places, .inl (cI, 8, .inl (upd s1.2.1 ((s1.1 - (1 : Int32))).toNatClampNeg (s1.2.1 (s1.1).toNatClampNeg)))), (a_t_halves, .inl (cI, 8, .inl (upd s1.2.2.1 ((s1.1 - (1 : Int32))).toNatClampNeg (s1.2.2.1 (s1.1).toNatClampNeg)))), (a_t_powers, .inl (cI, 8, .inl s1.2.2.2.1)), (a_t_glasses, .inl (cI, 8, .inl s1.2.2.2.2))] := hD
        refine lv_aload_n hx hb dX6_take_52 rfl (lv_at hl 2 rfl) ?_
        refine va_get (D := D) (ci := 8) (v := .ref a_t_powers) (C := RX6) (T := TX6) (N := 15) hx hb hts mc_X6_take_X6 hown hK hP 0 rfl rfl 2 (by decide) (hts _ mf_X6_take_16) (fun _ h9 => h9) rfl dX6_take_53 ?_
        refine lv_iload_n hx hb dX6_take_56 rfl (lv_at hl 0 rfl) ?_
        refine lv_iconst (v := (1 : Int32)) hx hb dX6_take_57 (by decide) ?_
        refine lv_isub hx hb dX6_take_58 ?_
        refine lv_aload_n hx hb dX6_take_59 rfl (lv_at hl 2 rfl) ?_
        refine va_get (D := D) (ci := 8) (v := .ref a_t_powers) (C := RX6) (T := TX6) (N := 15) hx hb hts mc_X6_take_X6 hown hK hP 0 rfl rfl 2 (by decide) (hts _ mf_X6_take_16) (fun _ h9 => h9) rfl dX6_take_60 ?_
        refine lv_iload_n hx hb dX6_take_63 rfl (lv_at hl 0 rfl) ?_
        obtain ⟨g9, h⟩ := gd_e h
        refine va_iald hx hb hK hP 3 0 rfl rfl (vin_in g9) dX6_take_64 ?_
        obtain ⟨g10, h⟩ := gd_e h
        refine va_iast hx hb hK hP hD hS 3 0 rfl rfl (vin_in g10) dX6_take_65 (fun H locs hP hD hS => ?_)
        have hP : va_P D vwCl [(a_t, .inr (8, [.ref a_t_places, .ref a_t_halves, .ref a_t_powers, .ref a_t_glasses, .int c_t_count, .int c_t_thingPlace, .int c_t_screenPlace, .int c_t_quarters, .int c_t_refused, .ref a_t_train, .ref a_t_single, .ref a_t_fan, .ref a_t_bending, .ref a_t_opening, .ref a_t_choice])), (a_t_places, .inl (cI, 8, .inl (upd s1.2.1 ((s1.1 - (1 : Int32))).toNatClampNeg (s1.2.1 (s1.1).toNatClampNeg)))), (a_t_halves, .inl (cI, 8, .inl (upd s1.2.2.1 ((s1.1 - (1 : Int32))).toNatClampNeg (s1.2.2.1 (s1.1).toNatClampNeg)))), (a_t_powers, .inl (cI, 8, .inl (upd s1.2.2.2.1 ((s1.1 - (1 : Int32))).toNatClampNeg (s1.2.2.2.1 (s1.1).toNatClampNeg)))), (a_t_glasses, .inl (cI, 8, .inl s1.2.2.2.2))] H := hP
        have hD : va_D A [(a_t, .inr (8, [.ref a_t_places, .ref a_t_halves, .ref a_t_powers, .ref a_t_glasses, .int c_t_count, .int c_t_thingPlace, .int c_t_screenPlace, .int c_t_quarters, .int c_t_refused, .ref a_t_train, .ref a_t_single, .ref a_t_fan, .ref a_t_bending, .ref a_t_opening, .ref a_t_choice])), (a_t_places, .inl (cI, 8, .inl (upd s1.2.1 ((s1.1 - (1 : Int32))).toNatClampNeg (s1.2.1 (s1.1).toNatClampNeg)))), (a_t_halves, .inl (cI, 8, .inl (upd s1.2.2.1 ((s1.1 - (1 : Int32))).toNatClampNeg (s1.2.2.1 (s1.1).toNatClampNeg)))), (a_t_powers, .inl (cI, 8, .inl (upd s1.2.2.2.1 ((s1.1 - (1 : Int32))).toNatClampNeg (s1.2.2.2.1 (s1.1).toNatClampNeg)))), (a_t_glasses, .inl (cI, 8, .inl s1.2.2.2.2))] := hD
        refine lv_aload_n hx hb dX6_take_66 rfl (lv_at hl 2 rfl) ?_
        refine va_get (D := D) (ci := 8) (v := .ref a_t_glasses) (C := RX6) (T := TX6) (N := 15) hx hb hts mc_X6_take_X6 hown hK hP 0 rfl rfl 3 (by decide) (hts _ mf_X6_take_19) (fun _ h9 => h9) rfl dX6_take_67 ?_
        refine lv_iload_n hx hb dX6_take_70 rfl (lv_at hl 0 rfl) ?_
        refine lv_iconst (v := (1 : Int32)) hx hb dX6_take_71 (by decide) ?_
        refine lv_isub hx hb dX6_take_72 ?_
        refine lv_aload_n hx hb dX6_take_73 rfl (lv_at hl 2 rfl) ?_
        refine va_get (D := D) (ci := 8) (v := .ref a_t_glasses) (C := RX6) (T := TX6) (N := 15) hx hb hts mc_X6_take_X6 hown hK hP 0 rfl rfl 3 (by decide) (hts _ mf_X6_take_19) (fun _ h9 => h9) rfl dX6_take_74 ?_
        refine lv_iload_n hx hb dX6_take_77 rfl (lv_at hl 0 rfl) ?_
        obtain ⟨g11, h⟩ := gd_e h
        refine va_iald hx hb hK hP 4 0 rfl rfl (vin_in g11) dX6_take_78 ?_
        obtain ⟨g12, h⟩ := gd_e h
        refine va_iast hx hb hK hP hD hS 4 0 rfl rfl (vin_in g12) dX6_take_79 (fun H locs hP hD hS => ?_)
        have hP : va_P D vwCl [(a_t, .inr (8, [.ref a_t_places, .ref a_t_halves, .ref a_t_powers, .ref a_t_glasses, .int c_t_count, .int c_t_thingPlace, .int c_t_screenPlace, .int c_t_quarters, .int c_t_refused, .ref a_t_train, .ref a_t_single, .ref a_t_fan, .ref a_t_bending, .ref a_t_opening, .ref a_t_choice])), (a_t_places, .inl (cI, 8, .inl (upd s1.2.1 ((s1.1 - (1 : Int32))).toNatClampNeg (s1.2.1 (s1.1).toNatClampNeg)))), (a_t_halves, .inl (cI, 8, .inl (upd s1.2.2.1 ((s1.1 - (1 : Int32))).toNatClampNeg (s1.2.2.1 (s1.1).toNatClampNeg)))), (a_t_powers, .inl (cI, 8, .inl (upd s1.2.2.2.1 ((s1.1 - (1 : Int32))).toNatClampNeg (s1.2.2.2.1 (s1.1).toNatClampNeg)))), (a_t_glasses, .inl (cI, 8, .inl (upd s1.2.2.2.2 ((s1.1 - (1 : Int32))).toNatClampNeg (s1.2.2.2.2 (s1.1).toNatClampNeg))))] H := hP
        have hD : va_D A [(a_t, .inr (8, [.ref a_t_places, .ref a_t_halves, .ref a_t_powers, .ref a_t_glasses, .int c_t_count, .int c_t_thingPlace, .int c_t_screenPlace, .int c_t_quarters, .int c_t_refused, .ref a_t_train, .ref a_t_single, .ref a_t_fan, .ref a_t_bending, .ref a_t_opening, .ref a_t_choice])), (a_t_places, .inl (cI, 8, .inl (upd s1.2.1 ((s1.1 - (1 : Int32))).toNatClampNeg (s1.2.1 (s1.1).toNatClampNeg)))), (a_t_halves, .inl (cI, 8, .inl (upd s1.2.2.1 ((s1.1 - (1 : Int32))).toNatClampNeg (s1.2.2.1 (s1.1).toNatClampNeg)))), (a_t_powers, .inl (cI, 8, .inl (upd s1.2.2.2.1 ((s1.1 - (1 : Int32))).toNatClampNeg (s1.2.2.2.1 (s1.1).toNatClampNeg)))), (a_t_glasses, .inl (cI, 8, .inl (upd s1.2.2.2.2 ((s1.1 - (1 : Int32))).toNatClampNeg (s1.2.2.2.2 (s1.1).toNatClampNeg))))] := hD
        refine lv_iinc (v := (s1.1 + (1 : Int32))) (lv' := [(3, .int (s1.1 + (1 : Int32))), (2, .int (c_t_places (p1).toNatClampNeg)), (0, .ref a_t), (1, .int p1)]) hx hb dX6_take_80 hl (k := 0) rfl rfl (by decide) rfl (fun ls hl => ?_)
        refine lv_goto (tgt := 16) hx hb dX6_take_83 (by decide) ?_
        exact ih1 ((s1.1 + (1 : Int32)), (upd s1.2.1 ((s1.1 - (1 : Int32))).toNatClampNeg (s1.2.1 (s1.1).toNatClampNeg)), (upd s1.2.2.1 ((s1.1 - (1 : Int32))).toNatClampNeg (s1.2.2.1 (s1.1).toNatClampNeg)), (upd s1.2.2.2.1 ((s1.1 - (1 : Int32))).toNatClampNeg (s1.2.2.2.1 (s1.1).toNatClampNeg)), (upd s1.2.2.2.2 ((s1.1 - (1 : Int32))).toNatClampNeg (s1.2.2.2.2 (s1.1).toNatClampNeg))) _ _ _ hP hD hS (lv_sub hl [0, 1, 2, 3] rfl) h
  exact LOOP1 1000 ((p1 + (1 : Int32)), c_t_places, c_t_halves, c_t_powers, c_t_glasses) _ _ _ hP hD hS hl h
theorem mc_X6_tall_X6 : ∀ w ∈ wsX60, w ∈ wsX6_tall := by decide +kernel
theorem mf_X6_tall_26 : Cond.fieldLink RX6 26 "Lensbench" "quarters" "I" ∈ wsX6_tall := by decide +kernel
abbrev rm_X6_tall : Room := { frames := 0, cells := 0, slots := 0, locals := 0 }
set_option maxHeartbeats 4000000 in
set_option maxRecDepth 100000 in
theorem m_X6_tall (l : Launch) (D : va_G) (cI cD cB : ClassId) (a_t : Nat) (a_t_places : Nat) (a_t_halves : Nat) (a_t_powers : Nat) (a_t_glasses : Nat) (a_t_train : Nat) (a_t_single : Nat) (a_t_fan : Nat) (a_t_bending : Nat) (a_t_opening : Nat) (a_t_choice : Nat) (p1 : Int32) (c_t_count : Int32) (c_t_thingPlace : Int32) (c_t_screenPlace : Int32) (c_t_quarters : Int32) (c_t_refused : Int32) (R : Int32 × Int32) (h : f_X6_tall p1 c_t_quarters = some (.inr R)) : Ci l yX6_tall wsX6_tall rm_X6_tall D (TT cI cD cB) [.ref a_t, .int p1] [(a_t, .inr (8, [.ref a_t_places, .ref a_t_halves, .ref a_t_powers, .ref a_t_glasses, .int c_t_count, .int c_t_thingPlace, .int c_t_screenPlace, .int c_t_quarters, .int c_t_refused, .ref a_t_train, .ref a_t_single, .ref a_t_fan, .ref a_t_bending, .ref a_t_opening, .ref a_t_choice]))] [(a_t, .inr (8, [.ref a_t_places, .ref a_t_halves, .ref a_t_powers, .ref a_t_glasses, .int c_t_count, .int c_t_thingPlace, .int c_t_screenPlace, .int R.2, .int c_t_refused, .ref a_t_train, .ref a_t_single, .ref a_t_fan, .ref a_t_bending, .ref a_t_opening, .ref a_t_choice]))] R.1 0 0 := by
  unfold f_X6_tall at h
  refine st_i (cc := cX6_tall) (maxL := 3) (by decide) rfl (Nat.le_of_ble_eq_true rfl) (fun p e s m av below meth c A Q ls hx hb hml hts hown hA hK hNM hZ hP hD hS hl hfin => ?_)
  have hown : s.vm.findClass RX6 = some m.cls := hown
  have hl : lv_has ls 3 [(0, .ref a_t), (1, .int p1)] := hl
  refine lv_iload_n hx hb dX6_tall_0 rfl (lv_at hl 1 rfl) ?_
  refine lv_if_lt (tgt := 10) hx hb dX6_tall_1 (by decide) (fun q1 => ?_) (fun q1 => ?_)
  · replace h := ifp h q1
    cases h
  · replace h := ifn h q1
    refine lv_iload_n hx hb dX6_tall_4 rfl (lv_at hl 1 rfl) ?_
    refine lv_bipush (v := (80 : Int32)) hx hb dX6_tall_5 (by decide) ?_
    refine lv_icmp_le (tgt := 20) hx hb dX6_tall_7 (by decide) (fun q2 => ?_) (fun q2 => ?_)
    · replace h := ifp h q2
      refine lv_aload_n hx hb dX6_tall_20 rfl (lv_at hl 0 rfl) ?_
      refine va_get (D := D) (ci := 8) (v := .int c_t_quarters) (C := RX6) (T := TX6) (N := 15) hx hb hts mc_X6_tall_X6 hown hK hP 0 rfl rfl 7 (by decide) (hts _ mf_X6_tall_26) (fun _ h9 => h9) rfl dX6_tall_21 ?_
      refine lv_istore_n (lv' := [(2, .int c_t_quarters), (0, .ref a_t), (1, .int p1)]) hx hb dX6_tall_24 rfl hl (by decide) rfl (fun ls hl => ?_)
      refine lv_aload_n hx hb dX6_tall_25 rfl (lv_at hl 1 rfl) ?_
      refine lv_iload_n hx hb dX6_tall_26 rfl (lv_at hl 2 rfl) ?_
      refine va_put (D := D) (ci := 8) (v := .int p1) (ty := .int) (C := RX6) (T := TX6) (N := 15) hx hb hts mc_X6_tall_X6 tyX6 tyX6_ok nmX6 hown hK hP hD hS 0 rfl rfl 7 (by decide) (hts _ mf_X6_tall_26) (fun _ h9 => h9) rfl (tyX6_ok 7 (by decide)) rfl rfl (Nat.le_of_ble_eq_true rfl) dX6_tall_27 (fun H locs hP hD hS => ?_)
      have hP : va_P D vwCl [(a_t, .inr (8, [.ref a_t_places, .ref a_t_halves, .ref a_t_powers, .ref a_t_glasses, .int c_t_count, .int c_t_thingPlace, .int c_t_screenPlace, .int p1, .int c_t_refused, .ref a_t_train, .ref a_t_single, .ref a_t_fan, .ref a_t_bending, .ref a_t_opening, .ref a_t_choice]))] H := hP
      have hD : va_D A [(a_t, .inr (8, [.ref a_t_places, .ref a_t_halves, .ref a_t_powers, .ref a_t_glasses, .int c_t_count, .int c_t_thingPlace, .int c_t_screenPlace, .int p1, .int c_t_refused, .ref a_t_train, .ref a_t_single, .ref a_t_fan, .ref a_t_bending, .ref a_t_opening, .ref a_t_choice]))] := hD
      refine lv_iload_n hx hb dX6_tall_30 rfl (lv_at hl 0 rfl) ?_
      rw [← inr_e h] at hfin
      exact hfin 31 _ _ _ dX6_tall_31 rfl hP hD hS
    · replace h := ifn h q2
      cases h
theorem mc_X6_thing_X6 : ∀ w ∈ wsX60, w ∈ wsX6_thing := by decide +kernel
theorem mf_X6_thing_108 : Cond.fieldLink RX6 108 "Lensbench" "thingPlace" "I" ∈ wsX6_thing := by decide +kernel
theorem mf_X6_thing_22 : Cond.fieldLink RX6 22 "Lensbench" "screenPlace" "I" ∈ wsX6_thing := by decide +kernel
abbrev rm_X6_thing : Room := { frames := 1, cells := 0, slots := 0, locals := 20 }
set_option maxHeartbeats 4000000 in
set_option maxRecDepth 100000 in
theorem m_X6_thing (l : Launch) (D : va_G) (cI cD cB : ClassId) (a_t : Nat) (a_t_places : Nat) (a_t_halves : Nat) (a_t_powers : Nat) (a_t_glasses : Nat) (a_t_train : Nat) (a_t_single : Nat) (a_t_fan : Nat) (a_t_bending : Nat) (a_t_opening : Nat) (a_t_choice : Nat) (p1 : Int32) (c_t_count : Int32) (c_t_thingPlace : Int32) (c_t_screenPlace : Int32) (c_t_quarters : Int32) (c_t_refused : Int32) (R : Int32 × Int32) (h : f_X6_thing p1 c_t_thingPlace c_t_screenPlace = some (.inr R)) : Ci l yX6_thing wsX6_thing rm_X6_thing D (TT cI cD cB) [.ref a_t, .int p1] [(a_t, .inr (8, [.ref a_t_places, .ref a_t_halves, .ref a_t_powers, .ref a_t_glasses, .int c_t_count, .int c_t_thingPlace, .int c_t_screenPlace, .int c_t_quarters, .int c_t_refused, .ref a_t_train, .ref a_t_single, .ref a_t_fan, .ref a_t_bending, .ref a_t_opening, .ref a_t_choice]))] [(a_t, .inr (8, [.ref a_t_places, .ref a_t_halves, .ref a_t_powers, .ref a_t_glasses, .int c_t_count, .int R.2, .int c_t_screenPlace, .int c_t_quarters, .int c_t_refused, .ref a_t_train, .ref a_t_single, .ref a_t_fan, .ref a_t_bending, .ref a_t_opening, .ref a_t_choice]))] R.1 0 0 := by
  unfold f_X6_thing at h
  refine st_i (cc := cX6_thing) (maxL := 3) (by decide) rfl (Nat.le_of_ble_eq_true rfl) (fun p e s m av below meth c A Q ls hx hb hml hts hown hA hK hNM hZ hP hD hS hl hfin => ?_)
  have hown : s.vm.findClass RX6 = some m.cls := hown
  have hl : lv_has ls 3 [(0, .ref a_t), (1, .int p1)] := hl
  refine lv_iload_n hx hb dX6_thing_0 rfl (lv_at hl 1 rfl) ?_
  obtain ⟨o1, e2, h⟩ := bx_r h
  refine co_v (W0 := []) (wr := [(a_t, .inr (8, [.ref a_t_places, .ref a_t_halves, .ref a_t_powers, .ref a_t_glasses, .int c_t_count, .int c_t_thingPlace, .int c_t_screenPlace, .int c_t_quarters, .int c_t_refused, .ref a_t_train, .ref a_t_single, .ref a_t_fan, .ref a_t_bending, .ref a_t_opening, .ref a_t_choice]))]) (W1 := []) (ws2 := [(a_t, .inr (8, [.ref a_t_places, .ref a_t_halves, .ref a_t_powers, .ref a_t_glasses, .int c_t_count, .int c_t_thingPlace, .int c_t_screenPlace, .int c_t_quarters, .int c_t_refused, .ref a_t_train, .ref a_t_single, .ref a_t_fan, .ref a_t_bending, .ref a_t_opening, .ref a_t_choice]))]) (va_runS (As := [.int p1]) (rest := []) ⟨hx, hb, hml, hown, hts⟩ (m_X6_needPlace l D cI cD cB p1 o1 e2 _) (va_cwS 1 hts gX6_thing_X6_needPlace rfl rfl rfl (by decide +kernel) ⟨Nat.le_of_ble_eq_true rfl, Nat.le_of_ble_eq_true rfl⟩) (my_preS [] hP hK hNM hZ hD hS hA rfl rfl) rfl rfl hl.1 rfl (lv_room (Nat.le_of_ble_eq_true rfl)) dX6_thing_1 ⟨Nat.zero_le _, Nat.zero_le _⟩) hP hD hS hA [] [0] [0] rfl rfl rfl rfl rfl (by decide) (fun H locs hP hD hS => ?_)
  refine lv_iload_n hx hb dX6_thing_4 rfl (lv_at hl 1 rfl) ?_
  refine lv_aload_n hx hb dX6_thing_5 rfl (lv_at hl 0 rfl) ?_
  refine va_get (D := D) (ci := 8) (v := .int c_t_screenPlace) (C := RX6) (T := TX6) (N := 15) hx hb hts mc_X6_thing_X6 hown hK hP 0 rfl rfl 6 (by decide) (hts _ mf_X6_thing_22) (fun _ h9 => h9) rfl dX6_thing_6 ?_
  refine lv_icmp_lt (tgt := 22) hx hb dX6_thing_9 (by decide) (fun q3 => ?_) (fun q3 => ?_)
  · replace h := ifp h q3
    refine lv_aload_n hx hb dX6_thing_22 rfl (lv_at hl 0 rfl) ?_
    refine va_get (D := D) (ci := 8) (v := .int c_t_thingPlace) (C := RX6) (T := TX6) (N := 15) hx hb hts mc_X6_thing_X6 hown hK hP 0 rfl rfl 5 (by decide) (hts _ mf_X6_thing_108) (fun _ h9 => h9) rfl dX6_thing_23 ?_
    refine lv_istore_n (lv' := [(2, .int c_t_thingPlace), (0, .ref a_t), (1, .int p1)]) hx hb dX6_thing_26 rfl hl (by decide) rfl (fun ls hl => ?_)
    refine lv_aload_n hx hb dX6_thing_27 rfl (lv_at hl 1 rfl) ?_
    refine lv_iload_n hx hb dX6_thing_28 rfl (lv_at hl 2 rfl) ?_
    refine va_put (D := D) (ci := 8) (v := .int p1) (ty := .int) (C := RX6) (T := TX6) (N := 15) hx hb hts mc_X6_thing_X6 tyX6 tyX6_ok nmX6 hown hK hP hD hS 0 rfl rfl 5 (by decide) (hts _ mf_X6_thing_108) (fun _ h9 => h9) rfl (tyX6_ok 5 (by decide)) rfl rfl (Nat.le_of_ble_eq_true rfl) dX6_thing_29 (fun H locs hP hD hS => ?_)
    have hP : va_P D vwCl [(a_t, .inr (8, [.ref a_t_places, .ref a_t_halves, .ref a_t_powers, .ref a_t_glasses, .int c_t_count, .int p1, .int c_t_screenPlace, .int c_t_quarters, .int c_t_refused, .ref a_t_train, .ref a_t_single, .ref a_t_fan, .ref a_t_bending, .ref a_t_opening, .ref a_t_choice]))] H := hP
    have hD : va_D A [(a_t, .inr (8, [.ref a_t_places, .ref a_t_halves, .ref a_t_powers, .ref a_t_glasses, .int c_t_count, .int p1, .int c_t_screenPlace, .int c_t_quarters, .int c_t_refused, .ref a_t_train, .ref a_t_single, .ref a_t_fan, .ref a_t_bending, .ref a_t_opening, .ref a_t_choice]))] := hD
    refine lv_iload_n hx hb dX6_thing_32 rfl (lv_at hl 0 rfl) ?_
    rw [← inr_e h] at hfin
    exact hfin 33 _ _ _ dX6_thing_33 rfl hP hD hS
  · replace h := ifn h q3
    cases h
theorem mc_X8_add_X8 : ∀ w ∈ wsX80, w ∈ wsX8_add := by decide +kernel
theorem mf_X8_add_176 : Cond.fieldLink RX8 176 "LensbenchModel" "sum" "J" ∈ wsX8_add := by decide +kernel
theorem mk_X8_add_180 : Cond.constantLong RX8 180 (31) ∈ wsX8_add := by decide +kernel
abbrev rm_X8_add : Room := { frames := 0, cells := 0, slots := 0, locals := 0 }
set_option maxHeartbeats 4000000 in
set_option maxRecDepth 100000 in
theorem m_X8_add (l : Launch) (D : va_G) (cI cD cB : ClassId) (a_t : Nat) (a_t_place : Nat) (a_t_half : Nat) (a_t_power : Nat) (a_t_glass : Nat) (p1 : Int64) (c_t_thrown : Int32) (c_t_pieces : Int32) (c_t_thing : Int32) (c_t_screen : Int32) (c_t_tall : Int32) (c_t_refused : Int32) (c_t_height : UInt64) (c_t_slope : UInt64) (c_t_cut : Int32) (c_t_sum : Int64) (R : Int64) (h : f_X8_add p1 c_t_sum = some R) : Cv l yX8_add wsX8_add rm_X8_add D (TT cI cD cB) [.ref a_t, .long p1] [(a_t, .inr (10, [.int c_t_thrown, .int c_t_pieces, .ref a_t_place, .ref a_t_half, .ref a_t_power, .ref a_t_glass, .int c_t_thing, .int c_t_screen, .int c_t_tall, .int c_t_refused, .double c_t_height, .double c_t_slope, .int c_t_cut, .long c_t_sum]))] [(a_t, .inr (10, [.int c_t_thrown, .int c_t_pieces, .ref a_t_place, .ref a_t_half, .ref a_t_power, .ref a_t_glass, .int c_t_thing, .int c_t_screen, .int c_t_tall, .int c_t_refused, .double c_t_height, .double c_t_slope, .int c_t_cut, .long R]))] 0 0 := by
  unfold f_X8_add at h
  refine st_v (cc := cX8_add) (maxL := 3) (by decide) rfl (Nat.le_of_ble_eq_true rfl) (fun p e s m av below meth c A Q ls hx hb hml hts hown hA hK hNM hZ hP hD hS hl hfin => ?_)
  have hown : s.vm.findClass RX8 = some m.cls := hown
  have hl : lv_has ls 3 [(0, .ref a_t), (1, .long p1)] := hl
  refine lv_aload_n hx hb dX8_add_0 rfl (lv_at hl 0 rfl) ?_
  refine lv_aload_n hx hb dX8_add_1 rfl (lv_at hl 0 rfl) ?_
  refine va_get (D := D) (ci := 10) (v := .long c_t_sum) (C := RX8) (T := TX8) (N := 14) hx hb hts mc_X8_add_X8 hown hK hP 0 rfl rfl 13 (by decide) (hts _ mf_X8_add_176) (fun _ h9 => h9) rfl dX8_add_2 ?_
  refine lv_ldc2 hx hb hown (hts _ mk_X8_add_180) dX8_add_5 ?_
  refine lv_lmul hx hb dX8_add_8 ?_
  refine lv_lload_n hx hb dX8_add_9 rfl (lv_at hl 1 rfl) ?_
  refine lv_ladd hx hb dX8_add_10 ?_
  refine va_put (D := D) (ci := 10) (v := .long ((c_t_sum * (31 : Int64)) + p1)) (ty := .long) (C := RX8) (T := TX8) (N := 14) hx hb hts mc_X8_add_X8 tyX8 tyX8_ok nmX8 hown hK hP hD hS 0 rfl rfl 13 (by decide) (hts _ mf_X8_add_176) (fun _ h9 => h9) rfl (tyX8_ok 13 (by decide)) rfl rfl (Nat.le_of_ble_eq_true rfl) dX8_add_11 (fun H locs hP hD hS => ?_)
  have hP : va_P D vwCl [(a_t, .inr (10, [.int c_t_thrown, .int c_t_pieces, .ref a_t_place, .ref a_t_half, .ref a_t_power, .ref a_t_glass, .int c_t_thing, .int c_t_screen, .int c_t_tall, .int c_t_refused, .double c_t_height, .double c_t_slope, .int c_t_cut, .long ((c_t_sum * (31 : Int64)) + p1)]))] H := hP
  have hD : va_D A [(a_t, .inr (10, [.int c_t_thrown, .int c_t_pieces, .ref a_t_place, .ref a_t_half, .ref a_t_power, .ref a_t_glass, .int c_t_thing, .int c_t_screen, .int c_t_tall, .int c_t_refused, .double c_t_height, .double c_t_slope, .int c_t_cut, .long ((c_t_sum * (31 : Int64)) + p1)]))] := hD
  rw [← some_e h] at hfin
  exact hfin 14 _ _ _ dX8_add_14 hP hD hS
theorem mk_X8_addPoint_182 : Cond.constantDouble RX8 182 (4661225614328463360) ∈ wsX8_addPoint := by decide +kernel
abbrev rm_X8_addPoint : Room := { frames := 1, cells := 0, slots := 0, locals := 22 }
set_option maxHeartbeats 4000000 in
set_option maxRecDepth 100000 in
theorem m_X8_addPoint (l : Launch) (D : va_G) (cI cD cB : ClassId) (a_t : Nat) (a_t_place : Nat) (a_t_half : Nat) (a_t_power : Nat) (a_t_glass : Nat) (p1 : UInt64) (c_t_thrown : Int32) (c_t_pieces : Int32) (c_t_thing : Int32) (c_t_screen : Int32) (c_t_tall : Int32) (c_t_refused : Int32) (c_t_height : UInt64) (c_t_slope : UInt64) (c_t_cut : Int32) (c_t_sum : Int64) (R : Int64) (h : f_X8_addPoint p1 c_t_sum = some R) : Cv l yX8_addPoint wsX8_addPoint rm_X8_addPoint D (TT cI cD cB) [.ref a_t, .double p1] [(a_t, .inr (10, [.int c_t_thrown, .int c_t_pieces, .ref a_t_place, .ref a_t_half, .ref a_t_power, .ref a_t_glass, .int c_t_thing, .int c_t_screen, .int c_t_tall, .int c_t_refused, .double c_t_height, .double c_t_slope, .int c_t_cut, .long c_t_sum]))] [(a_t, .inr (10, [.int c_t_thrown, .int c_t_pieces, .ref a_t_place, .ref a_t_half, .ref a_t_power, .ref a_t_glass, .int c_t_thing, .int c_t_screen, .int c_t_tall, .int c_t_refused, .double c_t_height, .double c_t_slope, .int c_t_cut, .long R]))] 0 0 := by
  unfold f_X8_addPoint at h
  refine st_v (cc := cX8_addPoint) (maxL := 3) (by decide) rfl (Nat.le_of_ble_eq_true rfl) (fun p e s m av below meth c A Q ls hx hb hml hts hown hA hK hNM hZ hP hD hS hl hfin => ?_)
  have hown : s.vm.findClass RX8 = some m.cls := hown
  have hl : lv_has ls 3 [(0, .ref a_t), (1, .double p1)] := hl
  refine lv_aload_n hx hb dX8_addPoint_0 rfl (lv_at hl 0 rfl) ?_
  refine lv_ldc2d hx hb hown (hts _ mk_X8_addPoint_182) dX8_addPoint_1 ?_
  refine lv_dload_n hx hb dX8_addPoint_4 rfl (lv_at hl 1 rfl) ?_
  obtain ⟨g1, h⟩ := gd_e h
  refine lv_dmul hx hb dX8_addPoint_5 (n64_n g1) ?_
  refine lv_d2l hx hb dX8_addPoint_6 ?_
  obtain ⟨o2, e3, h⟩ := bd_e h
  refine co_v (W0 := [(a_t, .inr (10, [.int c_t_thrown, .int c_t_pieces, .ref a_t_place, .ref a_t_half, .ref a_t_power, .ref a_t_glass, .int c_t_thing, .int c_t_screen, .int c_t_tall, .int c_t_refused, .double c_t_height, .double c_t_slope, .int c_t_cut, .long c_t_sum]))]) (wr := []) (W1 := [(a_t, .inr (10, [.int c_t_thrown, .int c_t_pieces, .ref a_t_place, .ref a_t_half, .ref a_t_power, .ref a_t_glass, .int c_t_thing, .int c_t_screen, .int c_t_tall, .int c_t_refused, .double c_t_height, .double c_t_slope, .int c_t_cut, .long o2]))]) (ws2 := [(a_t, .inr (10, [.int c_t_thrown, .int c_t_pieces, .ref a_t_place, .ref a_t_half, .ref a_t_power, .ref a_t_glass, .int c_t_thing, .int c_t_screen, .int c_t_tall, .int c_t_refused, .double c_t_height, .double c_t_slope, .int c_t_cut, .long o2]))]) (va_runV (C := RX8) (As := [.long (FP.d2l (FP.dmul (4661225614328463360 : UInt64) p1))]) (rest := []) ⟨hx, hb, hml, hown, hts⟩ (m_X8_add l D cI cD cB a_t a_t_place a_t_half a_t_power a_t_glass (FP.d2l (FP.dmul (4661225614328463360 : UInt64) p1)) c_t_thrown c_t_pieces c_t_thing c_t_screen c_t_tall c_t_refused c_t_height c_t_slope c_t_cut c_t_sum o2 e3 _) (cwV 1 hts gX8_addPoint_X8_add rfl rfl rfl (by decide +kernel) ⟨Nat.le_of_ble_eq_true rfl, Nat.le_of_ble_eq_true rfl⟩) (my_preV (q := (RX8, TX8, 14)) (ci := 10) (q0 := 0) [0] hP hK hNM hZ hD hS hA rfl rfl rfl rfl) rfl rfl hl.1 rfl (lv_room (Nat.le_of_ble_eq_true rfl)) dX8_addPoint_7 ⟨Nat.zero_le _, Nat.zero_le _⟩) hP hD hS hA [0] [] [0] rfl rfl rfl rfl rfl (by decide) (fun H locs hP hD hS => ?_)
  rw [← some_e h] at hfin
  exact hfin 10 _ _ _ dX8_addPoint_10 hP hD hS
