theorem mc_X2_seek_X2 : ∀ w ∈ wsX20, w ∈ wsX2_seek := by decide +kernel
theorem mc_X2_seek_X4 : ∀ w ∈ wsX40, w ∈ wsX2_seek := by decide +kernel
theorem mc_X2_seek_X5 : ∀ w ∈ wsX50, w ∈ wsX2_seek := by decide +kernel
theorem mf_X2_seek_15 : Cond.fieldLink RX2 15 "Lensbench$Opening" "least" "D" ∈ wsX2_seek := by decide +kernel
theorem mf_X2_seek_24 : Cond.fieldLink RX2 24 "Lensbench$Train" "start" "I" ∈ wsX2_seek := by decide +kernel
theorem mf_X2_seek_29 : Cond.fieldLink RX2 29 "Lensbench$Train" "size" "I" ∈ wsX2_seek := by decide +kernel
theorem mf_X2_seek_32 : Cond.fieldLink RX2 32 "Lensbench$Train" "places" "[I" ∈ wsX2_seek := by decide +kernel
theorem mf_X2_seek_40 : Cond.fieldLink RX2 40 "Lensbench$Train" "halves" "[I" ∈ wsX2_seek := by decide +kernel
theorem mf_X2_seek_43 : Cond.fieldLink RX2 43 "Lensbench$Table" "b" "D" ∈ wsX2_seek := by decide +kernel
theorem mf_X2_seek_54 : Cond.fieldLink RX2 54 "Lensbench$Train" "bends" "[D" ∈ wsX2_seek := by decide +kernel
theorem mf_X2_seek_9 : Cond.fieldLink RX2 9 "Lensbench$Opening" "position" "I" ∈ wsX2_seek := by decide +kernel
theorem mi_X2_seek_X6_unsigned : Cond.initialized RX6 ∈ wsX2_seek := by decide +kernel
theorem ms_X2_seek_X6_unsigned : Cond.static yX6_unsigned ∈ wsX2_seek := by decide +kernel
abbrev rm_X2_seek : Room := { frames := 1, cells := 0, slots := 0, locals := 26 }
set_option maxHeartbeats 4000000 in
set_option maxRecDepth 100000 in
theorem m_X2_seek (l : Launch) (D : va_G) (cI cD cB : ClassId) (a_t : Nat) (a_p1 : Nat) (a_p1_numbers : Nat) (a_p1_places : Nat) (a_p1_halves : Nat) (a_p1_bends : Nat) (a_p2 : Nat) (c_t_position : Int32) (c_t_least : UInt64) (c_p1_size : Int32) (c_p1_start : Int32) (c_p1_end : Int32) (c_p1_places : Nat → Int32) (c_p1_halves : Nat → Int32) (c_p1_bends : Nat → UInt64) (c_p2_a : UInt64) (c_p2_b : UInt64) (c_p2_c : UInt64) (c_p2_d : UInt64) (R : Int32 × UInt64 × UInt64 × UInt64 × UInt64 × UInt64) (h : f_X2_seek c_p1_size c_p1_start c_p1_places c_p1_halves c_p1_bends = some R) : Cv l yX2_seek wsX2_seek rm_X2_seek D (TT cI cD cB) [.ref a_t, .ref a_p1, .ref a_p2] [(a_t, .inr (4, [.int c_t_position, .double c_t_least])), (a_p1, .inr (7, [.ref a_p1_numbers, .ref a_p1_places, .ref a_p1_halves, .ref a_p1_bends, .int c_p1_size, .int c_p1_start, .int c_p1_end])), (a_p1_places, .inl (cI, 8, .inl c_p1_places)), (a_p1_halves, .inl (cI, 8, .inl c_p1_halves)), (a_p1_bends, .inl (cD, 8, .inr (.inr (.inr (.inl c_p1_bends))))), (a_p2, .inr (6, [.double c_p2_a, .double c_p2_b, .double c_p2_c, .double c_p2_d]))] [(a_t, .inr (4, [.int R.1, .double R.2.1])), (a_p1, .inr (7, [.ref a_p1_numbers, .ref a_p1_places, .ref a_p1_halves, .ref a_p1_bends, .int c_p1_size, .int c_p1_start, .int c_p1_end])), (a_p1_places, .inl (cI, 8, .inl c_p1_places)), (a_p1_halves, .inl (cI, 8, .inl c_p1_halves)), (a_p1_bends, .inl (cD, 8, .inr (.inr (.inr (.inl c_p1_bends))))), (a_p2, .inr (6, [.double R.2.2.1, .double R.2.2.2.1, .double R.2.2.2.2.1, .double R.2.2.2.2.2]))] 0 0 := by
  unfold f_X2_seek at h
  refine st_v (cc := cX2_seek) (maxL := 5) (by decide) rfl (Nat.le_of_ble_eq_true rfl) (fun p e s m av below meth c A Q ls hx hb hml hts hown hA hK hNM hZ hP hD hS hl hfin => ?_)
  have hown : s.vm.findClass RX2 = some m.cls := hown
  have hl : lv_has ls 5 [(0, .ref a_t), (1, .ref a_p1), (2, .ref a_p2)] := hl
  refine lv_aload_n hx hb dX2_seek_0 rfl (lv_at hl 0 rfl) ?_
  refine lv_iconst (v := (-1 : Int32)) hx hb dX2_seek_1 (by decide) ?_
  refine va_put (D := D) (ci := 4) (v := .int (-1 : Int32)) (ty := .int) (C := RX2) (T := TX2) (N := 2) hx hb hts mc_X2_seek_X2 tyX2 tyX2_ok nmX2 hown hK hP hD hS 0 rfl rfl 0 (by decide) (hts _ mf_X2_seek_9) (fun _ h9 => h9) rfl (tyX2_ok 0 (by decide)) rfl rfl (Nat.le_of_ble_eq_true rfl) dX2_seek_2 (fun H locs hP hD hS => ?_)
  have hP : va_P D vwCl [(a_t, .inr (4, [.int (-1 : Int32), .double c_t_least])), (a_p1, .inr (7, [.ref a_p1_numbers, .ref a_p1_places, .ref a_p1_halves, .ref a_p1_bends, .int c_p1_size, .int c_p1_start, .int c_p1_end])), (a_p1_places, .inl (cI, 8, .inl c_p1_places)), (a_p1_halves, .inl (cI, 8, .inl c_p1_halves)), (a_p1_bends, .inl (cD, 8, .inr (.inr (.inr (.inl c_p1_bends))))), (a_p2, .inr (6, [.double c_p2_a, .double c_p2_b, .double c_p2_c, .double c_p2_d]))] H := hP
  have hD : va_D A [(a_t, .inr (4, [.int (-1 : Int32), .double c_t_least])), (a_p1, .inr (7, [.ref a_p1_numbers, .ref a_p1_places, .ref a_p1_halves, .ref a_p1_bends, .int c_p1_size, .int c_p1_start, .int c_p1_end])), (a_p1_places, .inl (cI, 8, .inl c_p1_places)), (a_p1_halves, .inl (cI, 8, .inl c_p1_halves)), (a_p1_bends, .inl (cD, 8, .inr (.inr (.inr (.inl c_p1_bends))))), (a_p2, .inr (6, [.double c_p2_a, .double c_p2_b, .double c_p2_c, .double c_p2_d]))] := hD
  refine lv_aload_n hx hb dX2_seek_5 rfl (lv_at hl 0 rfl) ?_
  refine lv_dconst0 hx hb dX2_seek_6 ?_
  refine va_put (D := D) (ci := 4) (v := .double FP.dconst0) (ty := .double) (C := RX2) (T := TX2) (N := 2) hx hb hts mc_X2_seek_X2 tyX2 tyX2_ok nmX2 hown hK hP hD hS 0 rfl rfl 1 (by decide) (hts _ mf_X2_seek_15) (fun _ h9 => h9) rfl (tyX2_ok 1 (by decide)) rfl rfl (Nat.le_of_ble_eq_true rfl) dX2_seek_7 (fun H locs hP hD hS => ?_)
  have hP : va_P D vwCl [(a_t, .inr (4, [.int (-1 : Int32), .double FP.dconst0])), (a_p1, .inr (7, [.ref a_p1_numbers, .ref a_p1_places, .ref a_p1_halves, .ref a_p1_bends, .int c_p1_size, .int c_p1_start, .int c_p1_end])), (a_p1_places, .inl (cI, 8, .inl c_p1_places)), (a_p1_halves, .inl (cI, 8, .inl c_p1_halves)), (a_p1_bends, .inl (cD, 8, .inr (.inr (.inr (.inl c_p1_bends))))), (a_p2, .inr (6, [.double c_p2_a, .double c_p2_b, .double c_p2_c, .double c_p2_d]))] H := hP
  have hD : va_D A [(a_t, .inr (4, [.int (-1 : Int32), .double FP.dconst0])), (a_p1, .inr (7, [.ref a_p1_numbers, .ref a_p1_places, .ref a_p1_halves, .ref a_p1_bends, .int c_p1_size, .int c_p1_start, .int c_p1_end])), (a_p1_places, .inl (cI, 8, .inl c_p1_places)), (a_p1_halves, .inl (cI, 8, .inl c_p1_halves)), (a_p1_bends, .inl (cD, 8, .inr (.inr (.inr (.inl c_p1_bends))))), (a_p2, .inr (6, [.double c_p2_a, .double c_p2_b, .double c_p2_c, .double c_p2_d]))] := hD
  refine lv_aload_n hx hb dX2_seek_10 rfl (lv_at hl 2 rfl) ?_
  obtain ⟨o1, e2, h⟩ := bd_e h
  refine co_v (W0 := [(a_p2, .inr (6, [.double c_p2_a, .double c_p2_b, .double c_p2_c, .double c_p2_d]))]) (wr := [(a_t, .inr (4, [.int (-1 : Int32), .double FP.dconst0])), (a_p1, .inr (7, [.ref a_p1_numbers, .ref a_p1_places, .ref a_p1_halves, .ref a_p1_bends, .int c_p1_size, .int c_p1_start, .int c_p1_end])), (a_p1_places, .inl (cI, 8, .inl c_p1_places)), (a_p1_halves, .inl (cI, 8, .inl c_p1_halves)), (a_p1_bends, .inl (cD, 8, .inr (.inr (.inr (.inl c_p1_bends)))))]) (W1 := [(a_p2, .inr (6, [.double o1.1, .double o1.2.1, .double o1.2.2.1, .double o1.2.2.2]))]) (ws2 := [(a_t, .inr (4, [.int (-1 : Int32), .double FP.dconst0])), (a_p1, .inr (7, [.ref a_p1_numbers, .ref a_p1_places, .ref a_p1_halves, .ref a_p1_bends, .int c_p1_size, .int c_p1_start, .int c_p1_end])), (a_p1_places, .inl (cI, 8, .inl c_p1_places)), (a_p1_halves, .inl (cI, 8, .inl c_p1_halves)), (a_p1_bends, .inl (cD, 8, .inr (.inr (.inr (.inl c_p1_bends))))), (a_p2, .inr (6, [.double o1.1, .double o1.2.1, .double o1.2.2.1, .double o1.2.2.2]))]) (va_runV (C := RX4) (As := []) (rest := []) ⟨hx, hb, hml, hown, hts⟩ (m_X4_clear l D cI cD cB a_p2 c_p2_a c_p2_b c_p2_c c_p2_d o1 e2 _) (cwV 0 hts gX2_seek_X4_clear rfl rfl rfl (by decide +kernel) ⟨Nat.le_of_ble_eq_true rfl, Nat.le_of_ble_eq_true rfl⟩) (my_preV (q := (RX4, TX4, 4)) (ci := 6) (q0 := 5) [5] hP hK hNM hZ hD hS hA rfl rfl rfl rfl) rfl rfl hl.1 rfl (lv_room (Nat.le_of_ble_eq_true rfl)) dX2_seek_11 ⟨Nat.zero_le _, Nat.zero_le _⟩) hP hD hS hA [5] [0, 1, 2, 3, 4] [0, 1, 2, 3, 4, 5] rfl rfl rfl rfl rfl (by decide) (fun H locs hP hD hS => ?_)
  refine lv_aload_n hx hb dX2_seek_14 rfl (lv_at hl 1 rfl) ?_
  refine va_get (D := D) (ci := 7) (v := .int c_p1_start) (C := RX5) (T := TX5) (N := 7) hx hb hts mc_X2_seek_X5 hown hK hP 1 rfl rfl 5 (by decide) (hts _ mf_X2_seek_24) (fun _ h9 => h9) rfl dX2_seek_15 ?_
  refine lv_istore_n (lv' := [(3, .int c_p1_start), (0, .ref a_t), (1, .ref a_p1), (2, .ref a_p2)]) hx hb dX2_seek_18 rfl hl (by decide) rfl (fun ls hl => ?_)
  refine lv_iconst (v := (0 : Int32)) hx hb dX2_seek_19 (by decide) ?_
  refine lv_istore (lv' := [(4, .int (0 : Int32)), (3, .int c_p1_start), (0, .ref a_t), (1, .ref a_p1), (2, .ref a_p2)]) hx hb dX2_seek_20 hl (by decide) rfl (fun ls hl => ?_)
  have LOOP1 : ∀ (n1 : Nat) (s1 : Int32 × Int32 × Int32 × UInt64 × UInt64 × UInt64 × UInt64 × UInt64) (H : Heap) (locs : List Loc) (ls : Array Slot), va_P D vwCl [(a_t, .inr (4, [.int s1.2.2.1, .double s1.2.2.2.1])), (a_p1, .inr (7, [.ref a_p1_numbers, .ref a_p1_places, .ref a_p1_halves, .ref a_p1_bends, .int c_p1_size, .int c_p1_start, .int c_p1_end])), (a_p1_places, .inl (cI, 8, .inl c_p1_places)), (a_p1_halves, .inl (cI, 8, .inl c_p1_halves)), (a_p1_bends, .inl (cD, 8, .inr (.inr (.inr (.inl c_p1_bends))))), (a_p2, .inr (6, [.double s1.2.2.2.2.1, .double s1.2.2.2.2.2.1, .double s1.2.2.2.2.2.2.1, .double s1.2.2.2.2.2.2.2]))] H → va_D A [(a_t, .inr (4, [.int s1.2.2.1, .double s1.2.2.2.1])), (a_p1, .inr (7, [.ref a_p1_numbers, .ref a_p1_places, .ref a_p1_halves, .ref a_p1_bends, .int c_p1_size, .int c_p1_start, .int c_p1_end])), (a_p1_places, .inl (cI, 8, .inl c_p1_places)), (a_p1_halves, .inl (cI, 8, .inl c_p1_halves)), (a_p1_bends, .inl (cD, 8, .inr (.inr (.inr (.inl c_p1_bends))))), (a_p2, .inr (6, [.double s1.2.2.2.2.1, .double s1.2.2.2.2.2.1, .double s1.2.2.2.2.2.2.1, .double s1.2.2.2.2.2.2.2]))] → va_S A s.heap H locs → lv_has ls 5 [(4, .int s1.1), (3, .int s1.2.1), (0, .ref a_t), (1, .ref a_p1), (2, .ref a_p2)] → lp (f_X2_seek_b1 c_p1_size c_p1_places c_p1_halves c_p1_bends) n1 s1 = some R → W p l e rm_X2_seek s m av below meth c H locs 0 0 Q (F0 m 22 ls []) := by
    intro n1
    induction n1 with
    | zero => intro s1 H locs ls hP hD hS hl h; exact lp_0 h
    | succ n1 ih1 =>
      intro s1 H locs ls hP hD hS hl h
      replace h := lp_s h
      unfold f_X2_seek_b1 at h
      refine lv_iload hx hb dX2_seek_22 (lv_at hl 0 rfl) ?_
      refine lv_aload_n hx hb dX2_seek_24 rfl (lv_at hl 3 rfl) ?_
      refine va_get (D := D) (ci := 7) (v := .int c_p1_size) (C := RX5) (T := TX5) (N := 7) hx hb hts mc_X2_seek_X5 hown hK hP 1 rfl rfl 4 (by decide) (hts _ mf_X2_seek_29) (fun _ h9 => h9) rfl dX2_seek_25 ?_
      refine lv_icmp_ge (tgt := 89) hx hb dX2_seek_28 (by decide) (fun q3 => ?_) (fun q3 => ?_)
      · replace h := ifp h q3
        rw [← some_e h] at hfin
        exact hfin 89 _ _ _ dX2_seek_89 hP hD hS
      · replace h := ifn h q3
        refine lv_aload_n hx hb dX2_seek_31 rfl (lv_at hl 4 rfl) ?_
        refine lv_aload_n hx hb dX2_seek_32 rfl (lv_at hl 3 rfl) ?_
        refine va_get (D := D) (ci := 7) (v := .ref a_p1_places) (C := RX5) (T := TX5) (N := 7) hx hb hts mc_X2_seek_X5 hown hK hP 1 rfl rfl 1 (by decide) (hts _ mf_X2_seek_32) (fun _ h9 => h9) rfl dX2_seek_33 ?_
        refine lv_iload hx hb dX2_seek_36 (lv_at hl 0 rfl) ?_
        obtain ⟨g4, h⟩ := gd_e h
        refine va_iald hx hb hK hP 2 0 rfl rfl (vin_in g4) dX2_seek_38 ?_
        refine lv_iload_n hx hb dX2_seek_39 rfl (lv_at hl 1 rfl) ?_
        refine lv_isub hx hb dX2_seek_40 ?_
        obtain ⟨o5, e6, h⟩ := bd_e h
        refine co_v (W0 := [(a_p2, .inr (6, [.double s1.2.2.2.2.1, .double s1.2.2.2.2.2.1, .double s1.2.2.2.2.2.2.1, .double s1.2.2.2.2.2.2.2]))]) (wr := [(a_t, .inr (4, [.int s1.2.2.1, .double s1.2.2.2.1])), (a_p1, .inr (7, [.ref a_p1_numbers, .ref a_p1_places, .ref a_p1_halves, .ref a_p1_bends, .int c_p1_size, .int c_p1_start, .int c_p1_end])), (a_p1_places, .inl (cI, 8, .inl c_p1_places)), (a_p1_halves, .inl (cI, 8, .inl c_p1_halves)), (a_p1_bends, .inl (cD, 8, .inr (.inr (.inr (.inl c_p1_bends)))))]) (W1 := [(a_p2, .inr (6, [.double o5.1, .double o5.2, .double s1.2.2.2.2.2.2.1, .double s1.2.2.2.2.2.2.2]))]) (ws2 := [(a_t, .inr (4, [.int s1.2.2.1, .double s1.2.2.2.1])), (a_p1, .inr (7, [.ref a_p1_numbers, .ref a_p1_places, .ref a_p1_halves, .ref a_p1_bends, .int c_p1_size, .int c_p1_start, .int c_p1_end])), (a_p1_places, .inl (cI, 8, .inl c_p1_places)), (a_p1_halves, .inl (cI, 8, .inl c_p1_halves)), (a_p1_bends, .inl (cD, 8, .inr (.inr (.inr (.inl c_p1_bends))))), (a_p2, .inr (6, [.double o5.1, .double o5.2, .double s1.2.2.2.2.2.2.1, .double s1.2.2.2.2.2.2.2]))]) (va_runV (C := RX4) (As := [.int ((c_p1_places (s1.1).toNatClampNeg) - s1.2.1)]) (rest := []) ⟨hx, hb, hml, hown, hts⟩ (m_X4_goOn l D cI cD cB a_p2 ((c_p1_places (s1.1).toNatClampNeg) - s1.2.1) s1.2.2.2.2.1 s1.2.2.2.2.2.1 s1.2.2.2.2.2.2.1 s1.2.2.2.2.2.2.2 o5 e6 _) (cwV 1 hts gX2_seek_X4_goOn rfl rfl rfl (by decide +kernel) ⟨Nat.le_of_ble_eq_true rfl, Nat.le_of_ble_eq_true rfl⟩) (my_preV (q := (RX4, TX4, 4)) (ci := 6) (q0 := 5) [5] hP hK hNM hZ hD hS hA rfl rfl rfl rfl) rfl rfl hl.1 rfl (lv_room (Nat.le_of_ble_eq_true rfl)) dX2_seek_41 ⟨Nat.zero_le _, Nat.zero_le _⟩) hP hD hS hA [5] [0, 1, 2, 3, 4] [0, 1, 2, 3, 4, 5] rfl rfl rfl rfl rfl (by decide) (fun H locs hP hD hS => ?_)
        refine lv_aload_n hx hb dX2_seek_44 rfl (lv_at hl 3 rfl) ?_
        refine va_get (D := D) (ci := 7) (v := .ref a_p1_places) (C := RX5) (T := TX5) (N := 7) hx hb hts mc_X2_seek_X5 hown hK hP 1 rfl rfl 1 (by decide) (hts _ mf_X2_seek_32) (fun _ h9 => h9) rfl dX2_seek_45 ?_
        refine lv_iload hx hb dX2_seek_48 (lv_at hl 0 rfl) ?_
        obtain ⟨g7, h⟩ := gd_e h
        refine va_iald hx hb hK hP 2 0 rfl rfl (vin_in g7) dX2_seek_50 ?_
        refine lv_istore_n (lv' := [(3, .int (c_p1_places (s1.1).toNatClampNeg)), (4, .int s1.1), (0, .ref a_t), (1, .ref a_p1), (2, .ref a_p2)]) hx hb dX2_seek_51 rfl hl (by decide) rfl (fun ls hl => ?_)
        refine lv_aload_n hx hb dX2_seek_52 rfl (lv_at hl 2 rfl) ?_
        refine lv_iload hx hb dX2_seek_53 (lv_at hl 1 rfl) ?_
        refine lv_aload_n hx hb dX2_seek_55 rfl (lv_at hl 3 rfl) ?_
        refine va_get (D := D) (ci := 7) (v := .ref a_p1_halves) (C := RX5) (T := TX5) (N := 7) hx hb hts mc_X2_seek_X5 hown hK hP 1 rfl rfl 2 (by decide) (hts _ mf_X2_seek_40) (fun _ h9 => h9) rfl dX2_seek_56 ?_
        refine lv_iload hx hb dX2_seek_59 (lv_at hl 1 rfl) ?_
        obtain ⟨g8, h⟩ := gd_e h
        refine va_iald hx hb hK hP 3 0 rfl rfl (vin_in g8) dX2_seek_61 ?_
        refine lv_aload_n hx hb dX2_seek_62 rfl (lv_at hl 4 rfl) ?_
        refine va_get (D := D) (ci := 6) (v := .double o5.2) (C := RX4) (T := TX4) (N := 4) hx hb hts mc_X2_seek_X4 hown hK hP 5 rfl rfl 1 (by decide) (hts _ mf_X2_seek_43) (fun _ h9 => h9) rfl dX2_seek_63 ?_
        obtain ⟨o9, e10, h⟩ := bd_e h
        refine co_d (W0 := []) (wr := [(a_t, .inr (4, [.int s1.2.2.1, .double s1.2.2.2.1])), (a_p1, .inr (7, [.ref a_p1_numbers, .ref a_p1_places, .ref a_p1_halves, .ref a_p1_bends, .int c_p1_size, .int c_p1_start, .int c_p1_end])), (a_p1_places, .inl (cI, 8, .inl c_p1_places)), (a_p1_halves, .inl (cI, 8, .inl c_p1_halves)), (a_p1_bends, .inl (cD, 8, .inr (.inr (.inr (.inl c_p1_bends))))), (a_p2, .inr (6, [.double o5.1, .double o5.2, .double s1.2.2.2.2.2.2.1, .double s1.2.2.2.2.2.2.2]))]) (W1 := []) (ws2 := [(a_t, .inr (4, [.int s1.2.2.1, .double s1.2.2.2.1])), (a_p1, .inr (7, [.ref a_p1_numbers, .ref a_p1_places, .ref a_p1_halves, .ref a_p1_bends, .int c_p1_size, .int c_p1_start, .int c_p1_end])), (a_p1_places, .inl (cI, 8, .inl c_p1_places)), (a_p1_halves, .inl (cI, 8, .inl c_p1_halves)), (a_p1_bends, .inl (cD, 8, .inr (.inr (.inr (.inl c_p1_bends))))), (a_p2, .inr (6, [.double o5.1, .double o5.2, .double s1.2.2.2.2.2.2.1, .double s1.2.2.2.2.2.2.2]))]) (va_runSN (own := RX2) (host := "Lensbench") (index := 46) (As := [.double o5.2]) (rest := [.int (c_p1_halves (s1.1).toNatClampNeg), .int s1.1, .ref a_t]) ⟨hx, hb, hml, hown, hts⟩ (m_X6_unsigned l D cI cD cB o5.2 o9 e10 _) ⟨va_cnB 1 hts ggX2_seek_X6_unsigned rfl rfl rfl (hNM.1 _ (List.mem_of_getElem? (i := 5) rfl)) (hts _ mi_X2_seek_X6_unsigned) (by decide +kernel) ⟨Nat.le_of_ble_eq_true rfl, Nat.le_of_ble_eq_true rfl⟩, hts _ ms_X2_seek_X6_unsigned, trivial⟩ (my_preS [] hP hK hNM hZ hD hS hA rfl rfl) rfl rfl hl.1 rfl (lv_room (Nat.le_of_ble_eq_true rfl)) dX2_seek_66 ⟨Nat.zero_le _, Nat.zero_le _⟩) hP hD hS hA [] [0, 1, 2, 3, 4, 5] [0, 1, 2, 3, 4, 5] rfl rfl rfl rfl rfl (by decide) (fun H locs hP hD hS => ?_)
        obtain ⟨o11, e12, h⟩ := bd_e h
        refine co_v (W0 := [(a_t, .inr (4, [.int s1.2.2.1, .double s1.2.2.2.1]))]) (wr := [(a_p1, .inr (7, [.ref a_p1_numbers, .ref a_p1_places, .ref a_p1_halves, .ref a_p1_bends, .int c_p1_size, .int c_p1_start, .int c_p1_end])), (a_p1_places, .inl (cI, 8, .inl c_p1_places)), (a_p1_halves, .inl (cI, 8, .inl c_p1_halves)), (a_p1_bends, .inl (cD, 8, .inr (.inr (.inr (.inl c_p1_bends))))), (a_p2, .inr (6, [.double o5.1, .double o5.2, .double s1.2.2.2.2.2.2.1, .double s1.2.2.2.2.2.2.2]))]) (W1 := [(a_t, .inr (4, [.int o11.1, .double o11.2]))]) (ws2 := [(a_t, .inr (4, [.int o11.1, .double o11.2])), (a_p1, .inr (7, [.ref a_p1_numbers, .ref a_p1_places, .ref a_p1_halves, .ref a_p1_bends, .int c_p1_size, .int c_p1_start, .int c_p1_end])), (a_p1_places, .inl (cI, 8, .inl c_p1_places)), (a_p1_halves, .inl (cI, 8, .inl c_p1_halves)), (a_p1_bends, .inl (cD, 8, .inr (.inr (.inr (.inl c_p1_bends))))), (a_p2, .inr (6, [.double o5.1, .double o5.2, .double s1.2.2.2.2.2.2.1, .double s1.2.2.2.2.2.2.2]))]) (va_runV (C := RX2) (As := [.int s1.1, .int (c_p1_halves (s1.1).toNatClampNeg), .double o9]) (rest := []) ⟨hx, hb, hml, hown, hts⟩ (m_X2_weigh l D cI cD cB a_t s1.1 (c_p1_halves (s1.1).toNatClampNeg) o9 s1.2.2.1 s1.2.2.2.1 o11 e12 _) (cwV 3 hts gX2_seek_X2_weigh rfl rfl rfl (by decide +kernel) ⟨Nat.le_of_ble_eq_true rfl, Nat.le_of_ble_eq_true rfl⟩) (my_preV (q := (RX2, TX2, 2)) (ci := 4) (q0 := 0) [0] hP hK hNM hZ hD hS hA rfl rfl rfl rfl) rfl rfl hl.1 rfl (lv_room (Nat.le_of_ble_eq_true rfl)) dX2_seek_69 ⟨Nat.zero_le _, Nat.zero_le _⟩) hP hD hS hA [0] [1, 2, 3, 4, 5] [5, 0, 1, 2, 3, 4] rfl rfl rfl rfl rfl (by decide) (fun H locs hP hD hS => ?_)
        refine lv_aload_n hx hb dX2_seek_72 rfl (lv_at hl 4 rfl) ?_
        refine lv_aload_n hx hb dX2_seek_73 rfl (lv_at hl 3 rfl) ?_
        refine va_get (D := D) (ci := 7) (v := .ref a_p1_bends) (C := RX5) (T := TX5) (N := 7) hx hb hts mc_X2_seek_X5 hown hK hP 1 rfl rfl 3 (by decide) (hts _ mf_X2_seek_54) (fun _ h9 => h9) rfl dX2_seek_74 ?_
        refine lv_iload hx hb dX2_seek_77 (lv_at hl 1 rfl) ?_
        obtain ⟨g13, h⟩ := gd_e h
        refine va_dald hx hb hK hP 4 1 rfl rfl (vin_in g13) dX2_seek_79 ?_
        obtain ⟨o14, e15, h⟩ := bd_e h
        refine co_v (W0 := [(a_p2, .inr (6, [.double o5.1, .double o5.2, .double s1.2.2.2.2.2.2.1, .double s1.2.2.2.2.2.2.2]))]) (wr := [(a_t, .inr (4, [.int o11.1, .double o11.2])), (a_p1, .inr (7, [.ref a_p1_numbers, .ref a_p1_places, .ref a_p1_halves, .ref a_p1_bends, .int c_p1_size, .int c_p1_start, .int c_p1_end])), (a_p1_places, .inl (cI, 8, .inl c_p1_places)), (a_p1_halves, .inl (cI, 8, .inl c_p1_halves)), (a_p1_bends, .inl (cD, 8, .inr (.inr (.inr (.inl c_p1_bends)))))]) (W1 := [(a_p2, .inr (6, [.double o5.1, .double o5.2, .double o14.1, .double o14.2]))]) (ws2 := [(a_t, .inr (4, [.int o11.1, .double o11.2])), (a_p1, .inr (7, [.ref a_p1_numbers, .ref a_p1_places, .ref a_p1_halves, .ref a_p1_bends, .int c_p1_size, .int c_p1_start, .int c_p1_end])), (a_p1_places, .inl (cI, 8, .inl c_p1_places)), (a_p1_halves, .inl (cI, 8, .inl c_p1_halves)), (a_p1_bends, .inl (cD, 8, .inr (.inr (.inr (.inl c_p1_bends))))), (a_p2, .inr (6, [.double o5.1, .double o5.2, .double o14.1, .double o14.2]))]) (va_runV (C := RX4) (As := [.double (c_p1_bends (s1.1).toNatClampNeg)]) (rest := []) ⟨hx, hb, hml, hown, hts⟩ (m_X4_bend l D cI cD cB a_p2 (c_p1_bends (s1.1).toNatClampNeg) o5.1 o5.2 s1.2.2.2.2.2.2.1 s1.2.2.2.2.2.2.2 o14 e15 _) (cwV 1 hts gX2_seek_X4_bend rfl rfl rfl (by decide +kernel) ⟨Nat.le_of_ble_eq_true rfl, Nat.le_of_ble_eq_true rfl⟩) (my_preV (q := (RX4, TX4, 4)) (ci := 6) (q0 := 5) [5] hP hK hNM hZ hD hS hA rfl rfl rfl rfl) rfl rfl hl.1 rfl (lv_room (Nat.le_of_ble_eq_true rfl)) dX2_seek_80 ⟨Nat.zero_le _, Nat.zero_le _⟩) hP hD hS hA [5] [0, 1, 2, 3, 4] [0, 1, 2, 3, 4, 5] rfl rfl rfl rfl rfl (by decide) (fun H locs hP hD hS => ?_)
        refine lv_iinc (v := (s1.1 + (1 : Int32))) (lv' := [(4, .int (s1.1 + (1 : Int32))), (3, .int (c_p1_places (s1.1).toNatClampNeg)), (0, .ref a_t), (1, .ref a_p1), (2, .ref a_p2)]) hx hb dX2_seek_83 hl (k := 1) rfl rfl (by decide) rfl (fun ls hl => ?_)
        refine lv_goto (tgt := 22) hx hb dX2_seek_86 (by decide) ?_
        exact ih1 ((s1.1 + (1 : Int32)), (c_p1_places (s1.1).toNatClampNeg), o11.1, o11.2, o5.1, o5.2, o14.1, o14.2) _ _ _ hP hD hS (lv_sub hl [0, 1, 2, 3, 4] rfl) h
  exact LOOP1 1000 ((0 : Int32), c_p1_start, (-1 : Int32), FP.dconst0, o1.1, o1.2.1, o1.2.2.1, o1.2.2.2) _ _ _ hP hD hS hl h
theorem mk_X6_isTiny_362 : Cond.constantDouble RX6 362 (4517329193108106637) ∈ wsX6_isTiny := by decide +kernel
abbrev rm_X6_isTiny : Room := { frames := 1, cells := 0, slots := 0, locals := 21 }
set_option maxHeartbeats 4000000 in
set_option maxRecDepth 100000 in
theorem m_X6_isTiny (l : Launch) (D : va_G) (cI cD cB : ClassId) (p1 : UInt64) (R : Int32) (h : f_X6_isTiny p1 = some R) : Ci l yX6_isTiny wsX6_isTiny rm_X6_isTiny D (TT cI cD cB) [.double p1] [] [] R 0 0 := by
  unfold f_X6_isTiny at h
  refine st_i (cc := cX6_isTiny) (maxL := 2) (by decide) rfl (Nat.le_of_ble_eq_true rfl) (fun p e s m av below meth c A Q ls hx hb hml hts hown hA hK hNM hZ hP hD hS hl hfin => ?_)
  have hown : s.vm.findClass RX6 = some m.cls := hown
  have hl : lv_has ls 2 [(0, .double p1)] := hl
  refine lv_dload_n hx hb dX6_isTiny_0 rfl (lv_at hl 0 rfl) ?_
  obtain ⟨o1, e2, h⟩ := bd_e h
  refine co_d (W0 := []) (wr := []) (W1 := []) (ws2 := []) (va_runS (As := [.double p1]) (rest := []) ⟨hx, hb, hml, hown, hts⟩ (m_X6_unsigned l D cI cD cB p1 o1 e2 _) (va_cwS 1 hts gX6_isTiny_X6_unsigned rfl rfl rfl (by decide +kernel) ⟨Nat.le_of_ble_eq_true rfl, Nat.le_of_ble_eq_true rfl⟩) (my_preS [] hP hK hNM hZ hD hS hA rfl rfl) rfl rfl hl.1 rfl (lv_room (Nat.le_of_ble_eq_true rfl)) dX6_isTiny_1 ⟨Nat.zero_le _, Nat.zero_le _⟩) hP hD hS hA [] [] [] rfl rfl rfl rfl rfl (by decide) (fun H locs hP hD hS => ?_)
  refine lv_ldc2d hx hb hown (hts _ mk_X6_isTiny_362) dX6_isTiny_4 ?_
  refine lv_dcmp hx hb dX6_isTiny_7 ?_
  refine lv_if_ge (tgt := 15) hx hb dX6_isTiny_8 (by decide) (fun q3 => ?_) (fun q3 => ?_)
  · replace h := ifp h q3
    refine lv_iconst (v := (0 : Int32)) hx hb dX6_isTiny_15 (by decide) ?_
    rw [← some_e h] at hfin
    exact hfin 16 _ _ _ dX6_isTiny_16 rfl hP hD hS
  · replace h := ifn h q3
    refine lv_iconst (v := (1 : Int32)) hx hb dX6_isTiny_11 (by decide) ?_
    refine lv_goto (tgt := 16) hx hb dX6_isTiny_12 (by decide) ?_
    rw [← some_e h] at hfin
    exact hfin 16 _ _ _ dX6_isTiny_16 rfl hP hD hS
theorem mc_X4_back_X4 : ∀ w ∈ wsX40, w ∈ wsX4_back := by decide +kernel
theorem mf_X4_back_13 : Cond.fieldLink RX4 13 "Lensbench$Table" "b" "D" ∈ wsX4_back := by decide +kernel
theorem mf_X4_back_19 : Cond.fieldLink RX4 19 "Lensbench$Table" "d" "D" ∈ wsX4_back := by decide +kernel
theorem mi_X4_back_X6_isTiny : Cond.initialized RX6 ∈ wsX4_back := by decide +kernel
theorem ms_X4_back_X6_isTiny : Cond.static yX6_isTiny ∈ wsX4_back := by decide +kernel
abbrev rm_X4_back : Room := { frames := 2, cells := 0, slots := 0, locals := 42 }
set_option maxHeartbeats 4000000 in
set_option maxRecDepth 100000 in
theorem m_X4_back (l : Launch) (D : va_G) (cI cD cB : ClassId) (a_t : Nat) (c_t_a : UInt64) (c_t_b : UInt64) (c_t_c : UInt64) (c_t_d : UInt64) (R : UInt64) (h : f_X4_back c_t_b c_t_d = some R) : Cd l yX4_back wsX4_back rm_X4_back D (TT cI cD cB) [.ref a_t] [(a_t, .inr (6, [.double c_t_a, .double c_t_b, .double c_t_c, .double c_t_d]))] [(a_t, .inr (6, [.double c_t_a, .double c_t_b, .double c_t_c, .double c_t_d]))] R 0 0 := by
  unfold f_X4_back at h
  refine st_d (cc := cX4_back) (maxL := 1) (by decide) rfl (Nat.le_of_ble_eq_true rfl) (fun p e s m av below meth c A Q ls hx hb hml hts hown hA hK hNM hZ hP hD hS hl hfin => ?_)
  have hown : s.vm.findClass RX4 = some m.cls := hown
  have hl : lv_has ls 1 [(0, .ref a_t)] := hl
  refine lv_aload_n hx hb dX4_back_0 rfl (lv_at hl 0 rfl) ?_
  refine va_get (D := D) (ci := 6) (v := .double c_t_d) (C := RX4) (T := TX4) (N := 4) hx hb hts mc_X4_back_X4 hown hK hP 0 rfl rfl 3 (by decide) (hts _ mf_X4_back_19) (fun _ h9 => h9) rfl dX4_back_1 ?_
  obtain ⟨o1, e2, h⟩ := bd_e h
  refine co_i (W0 := []) (wr := [(a_t, .inr (6, [.double c_t_a, .double c_t_b, .double c_t_c, .double c_t_d]))]) (W1 := []) (ws2 := [(a_t, .inr (6, [.double c_t_a, .double c_t_b, .double c_t_c, .double c_t_d]))]) (va_runSN (own := RX4) (host := "Lensbench") (index := 50) (As := [.double c_t_d]) (rest := []) ⟨hx, hb, hml, hown, hts⟩ (m_X6_isTiny l D cI cD cB c_t_d o1 e2 _) ⟨va_cnB 1 hts ggX4_back_X6_isTiny rfl rfl rfl (hNM.1 _ (List.mem_of_getElem? (i := 6) rfl)) (hts _ mi_X4_back_X6_isTiny) (by decide +kernel) ⟨Nat.le_of_ble_eq_true rfl, Nat.le_of_ble_eq_true rfl⟩, hts _ ms_X4_back_X6_isTiny, trivial⟩ (my_preS [] hP hK hNM hZ hD hS hA rfl rfl) rfl rfl hl.1 rfl (lv_room (Nat.le_of_ble_eq_true rfl)) dX4_back_4 ⟨Nat.zero_le _, Nat.zero_le _⟩) hP hD hS hA [] [0] [0] rfl rfl rfl rfl rfl (by decide) (fun H locs hP hD hS => ?_)
  refine lv_if_eq (tgt := 14) hx hb dX4_back_7 (by decide) (fun q3 => ?_) (fun q3 => ?_)
  · replace h := ifp h q3
    refine lv_aload_n hx hb dX4_back_14 rfl (lv_at hl 0 rfl) ?_
    refine va_get (D := D) (ci := 6) (v := .double c_t_b) (C := RX4) (T := TX4) (N := 4) hx hb hts mc_X4_back_X4 hown hK hP 0 rfl rfl 1 (by decide) (hts _ mf_X4_back_13) (fun _ h9 => h9) rfl dX4_back_15 ?_
    refine lv_aload_n hx hb dX4_back_18 rfl (lv_at hl 0 rfl) ?_
    refine va_get (D := D) (ci := 6) (v := .double c_t_d) (C := RX4) (T := TX4) (N := 4) hx hb hts mc_X4_back_X4 hown hK hP 0 rfl rfl 3 (by decide) (hts _ mf_X4_back_19) (fun _ h9 => h9) rfl dX4_back_19 ?_
    obtain ⟨g4, h⟩ := gd_e h
    refine lv_ddiv hx hb dX4_back_22 (n64_n g4) ?_
    refine lv_dneg hx hb dX4_back_23 ?_
    rw [← some_e h] at hfin
    exact hfin 24 _ _ _ dX4_back_24 hP hD hS
  · replace h := ifn h q3
    refine lv_dconst0 hx hb dX4_back_10 ?_
    refine lv_goto (tgt := 24) hx hb dX4_back_11 (by decide) ?_
    rw [← some_e h] at hfin
    exact hfin 24 _ _ _ dX4_back_24 hP hD hS
theorem mc_X4_focus_X4 : ∀ w ∈ wsX40, w ∈ wsX4_focus := by decide +kernel
theorem mf_X4_focus_16 : Cond.fieldLink RX4 16 "Lensbench$Table" "c" "D" ∈ wsX4_focus := by decide +kernel
theorem mi_X4_focus_X6_isTiny : Cond.initialized RX6 ∈ wsX4_focus := by decide +kernel
theorem ms_X4_focus_X6_isTiny : Cond.static yX6_isTiny ∈ wsX4_focus := by decide +kernel
abbrev rm_X4_focus : Room := { frames := 2, cells := 0, slots := 0, locals := 42 }
set_option maxHeartbeats 4000000 in
set_option maxRecDepth 100000 in
theorem m_X4_focus (l : Launch) (D : va_G) (cI cD cB : ClassId) (a_t : Nat) (c_t_a : UInt64) (c_t_b : UInt64) (c_t_c : UInt64) (c_t_d : UInt64) (R : UInt64) (h : f_X4_focus c_t_c = some R) : Cd l yX4_focus wsX4_focus rm_X4_focus D (TT cI cD cB) [.ref a_t] [(a_t, .inr (6, [.double c_t_a, .double c_t_b, .double c_t_c, .double c_t_d]))] [(a_t, .inr (6, [.double c_t_a, .double c_t_b, .double c_t_c, .double c_t_d]))] R 0 0 := by
  unfold f_X4_focus at h
  refine st_d (cc := cX4_focus) (maxL := 1) (by decide) rfl (Nat.le_of_ble_eq_true rfl) (fun p e s m av below meth c A Q ls hx hb hml hts hown hA hK hNM hZ hP hD hS hl hfin => ?_)
  have hown : s.vm.findClass RX4 = some m.cls := hown
  have hl : lv_has ls 1 [(0, .ref a_t)] := hl
  refine lv_aload_n hx hb dX4_focus_0 rfl (lv_at hl 0 rfl) ?_
  refine va_get (D := D) (ci := 6) (v := .double c_t_c) (C := RX4) (T := TX4) (N := 4) hx hb hts mc_X4_focus_X4 hown hK hP 0 rfl rfl 2 (by decide) (hts _ mf_X4_focus_16) (fun _ h9 => h9) rfl dX4_focus_1 ?_
  obtain ⟨o1, e2, h⟩ := bd_e h
  refine co_i (W0 := []) (wr := [(a_t, .inr (6, [.double c_t_a, .double c_t_b, .double c_t_c, .double c_t_d]))]) (W1 := []) (ws2 := [(a_t, .inr (6, [.double c_t_a, .double c_t_b, .double c_t_c, .double c_t_d]))]) (va_runSN (own := RX4) (host := "Lensbench") (index := 50) (As := [.double c_t_c]) (rest := []) ⟨hx, hb, hml, hown, hts⟩ (m_X6_isTiny l D cI cD cB c_t_c o1 e2 _) ⟨va_cnB 1 hts ggX4_focus_X6_isTiny rfl rfl rfl (hNM.1 _ (List.mem_of_getElem? (i := 6) rfl)) (hts _ mi_X4_focus_X6_isTiny) (by decide +kernel) ⟨Nat.le_of_ble_eq_true rfl, Nat.le_of_ble_eq_true rfl⟩, hts _ ms_X4_focus_X6_isTiny, trivial⟩ (my_preS [] hP hK hNM hZ hD hS hA rfl rfl) rfl rfl hl.1 rfl (lv_room (Nat.le_of_ble_eq_true rfl)) dX4_focus_4 ⟨Nat.zero_le _, Nat.zero_le _⟩) hP hD hS hA [] [0] [0] rfl rfl rfl rfl rfl (by decide) (fun H locs hP hD hS => ?_)
  refine lv_if_eq (tgt := 14) hx hb dX4_focus_7 (by decide) (fun q3 => ?_) (fun q3 => ?_)
  · replace h := ifp h q3
    refine lv_dconst1 hx hb dX4_focus_14 ?_
    refine lv_aload_n hx hb dX4_focus_15 rfl (lv_at hl 0 rfl) ?_
    refine va_get (D := D) (ci := 6) (v := .double c_t_c) (C := RX4) (T := TX4) (N := 4) hx hb hts mc_X4_focus_X4 hown hK hP 0 rfl rfl 2 (by decide) (hts _ mf_X4_focus_16) (fun _ h9 => h9) rfl dX4_focus_16 ?_
    obtain ⟨g4, h⟩ := gd_e h
    refine lv_ddiv hx hb dX4_focus_19 (n64_n g4) ?_
    refine lv_dneg hx hb dX4_focus_20 ?_
    rw [← some_e h] at hfin
    exact hfin 21 _ _ _ dX4_focus_21 hP hD hS
  · replace h := ifn h q3
    refine lv_dconst0 hx hb dX4_focus_10 ?_
    refine lv_goto (tgt := 21) hx hb dX4_focus_11 (by decide) ?_
    rw [← some_e h] at hfin
    exact hfin 21 _ _ _ dX4_focus_21 hP hD hS
theorem mc_X4_hasImage_X4 : ∀ w ∈ wsX40, w ∈ wsX4_hasImage := by decide +kernel
theorem mf_X4_hasImage_19 : Cond.fieldLink RX4 19 "Lensbench$Table" "d" "D" ∈ wsX4_hasImage := by decide +kernel
theorem mi_X4_hasImage_X6_isTiny : Cond.initialized RX6 ∈ wsX4_hasImage := by decide +kernel
theorem ms_X4_hasImage_X6_isTiny : Cond.static yX6_isTiny ∈ wsX4_hasImage := by decide +kernel
abbrev rm_X4_hasImage : Room := { frames := 2, cells := 0, slots := 0, locals := 42 }
set_option maxHeartbeats 4000000 in
set_option maxRecDepth 100000 in
theorem m_X4_hasImage (l : Launch) (D : va_G) (cI cD cB : ClassId) (a_t : Nat) (c_t_a : UInt64) (c_t_b : UInt64) (c_t_c : UInt64) (c_t_d : UInt64) (R : Int32) (h : f_X4_hasImage c_t_d = some R) : Ci l yX4_hasImage wsX4_hasImage rm_X4_hasImage D (TT cI cD cB) [.ref a_t] [(a_t, .inr (6, [.double c_t_a, .double c_t_b, .double c_t_c, .double c_t_d]))] [(a_t, .inr (6, [.double c_t_a, .double c_t_b, .double c_t_c, .double c_t_d]))] R 0 0 := by
  unfold f_X4_hasImage at h
  refine st_i (cc := cX4_hasImage) (maxL := 1) (by decide) rfl (Nat.le_of_ble_eq_true rfl) (fun p e s m av below meth c A Q ls hx hb hml hts hown hA hK hNM hZ hP hD hS hl hfin => ?_)
  have hown : s.vm.findClass RX4 = some m.cls := hown
  have hl : lv_has ls 1 [(0, .ref a_t)] := hl
  refine lv_aload_n hx hb dX4_hasImage_0 rfl (lv_at hl 0 rfl) ?_
  refine va_get (D := D) (ci := 6) (v := .double c_t_d) (C := RX4) (T := TX4) (N := 4) hx hb hts mc_X4_hasImage_X4 hown hK hP 0 rfl rfl 3 (by decide) (hts _ mf_X4_hasImage_19) (fun _ h9 => h9) rfl dX4_hasImage_1 ?_
  obtain ⟨o1, e2, h⟩ := bd_e h
  refine co_i (W0 := []) (wr := [(a_t, .inr (6, [.double c_t_a, .double c_t_b, .double c_t_c, .double c_t_d]))]) (W1 := []) (ws2 := [(a_t, .inr (6, [.double c_t_a, .double c_t_b, .double c_t_c, .double c_t_d]))]) (va_runSN (own := RX4) (host := "Lensbench") (index := 50) (As := [.double c_t_d]) (rest := []) ⟨hx, hb, hml, hown, hts⟩ (m_X6_isTiny l D cI cD cB c_t_d o1 e2 _) ⟨va_cnB 1 hts ggX4_hasImage_X6_isTiny rfl rfl rfl (hNM.1 _ (List.mem_of_getElem? (i := 6) rfl)) (hts _ mi_X4_hasImage_X6_isTiny) (by decide +kernel) ⟨Nat.le_of_ble_eq_true rfl, Nat.le_of_ble_eq_true rfl⟩, hts _ ms_X4_hasImage_X6_isTiny, trivial⟩ (my_preS [] hP hK hNM hZ hD hS hA rfl rfl) rfl rfl hl.1 rfl (lv_room (Nat.le_of_ble_eq_true rfl)) dX4_hasImage_4 ⟨Nat.zero_le _, Nat.zero_le _⟩) hP hD hS hA [] [0] [0] rfl rfl rfl rfl rfl (by decide) (fun H locs hP hD hS => ?_)
  refine lv_if_ne (tgt := 14) hx hb dX4_hasImage_7 (by decide) (fun q3 => ?_) (fun q3 => ?_)
  · replace h := ifn h q3
    refine lv_iconst (v := (0 : Int32)) hx hb dX4_hasImage_14 (by decide) ?_
    rw [← some_e h] at hfin
    exact hfin 15 _ _ _ dX4_hasImage_15 rfl hP hD hS
  · replace h := ifp h q3
    refine lv_iconst (v := (1 : Int32)) hx hb dX4_hasImage_10 (by decide) ?_
    refine lv_goto (tgt := 15) hx hb dX4_hasImage_11 (by decide) ?_
    rw [← some_e h] at hfin
    exact hfin 15 _ _ _ dX4_hasImage_15 rfl hP hD hS
theorem mc_X4_lay_X5 : ∀ w ∈ wsX50, w ∈ wsX4_lay := by decide +kernel
theorem mf_X4_lay_25 : Cond.fieldLink RX4 25 "Lensbench$Train" "start" "I" ∈ wsX4_lay := by decide +kernel
theorem mf_X4_lay_31 : Cond.fieldLink RX4 31 "Lensbench$Train" "size" "I" ∈ wsX4_lay := by decide +kernel
theorem mf_X4_lay_34 : Cond.fieldLink RX4 34 "Lensbench$Train" "places" "[I" ∈ wsX4_lay := by decide +kernel
theorem mf_X4_lay_42 : Cond.fieldLink RX4 42 "Lensbench$Train" "bends" "[D" ∈ wsX4_lay := by decide +kernel
abbrev rm_X4_lay : Room := { frames := 1, cells := 0, slots := 0, locals := 22 }
set_option maxHeartbeats 4000000 in
set_option maxRecDepth 100000 in
theorem m_X4_lay (l : Launch) (D : va_G) (cI cD cB : ClassId) (a_t : Nat) (a_p1 : Nat) (a_p1_numbers : Nat) (a_p1_places : Nat) (a_p1_halves : Nat) (a_p1_bends : Nat) (c_t_a : UInt64) (c_t_b : UInt64) (c_t_c : UInt64) (c_t_d : UInt64) (c_p1_size : Int32) (c_p1_start : Int32) (c_p1_end : Int32) (c_p1_places : Nat → Int32) (c_p1_bends : Nat → UInt64) (R : UInt64 × UInt64 × UInt64 × UInt64) (h : f_X4_lay c_p1_size c_p1_start c_p1_places c_p1_bends = some R) : Cv l yX4_lay wsX4_lay rm_X4_lay D (TT cI cD cB) [.ref a_t, .ref a_p1] [(a_t, .inr (6, [.double c_t_a, .double c_t_b, .double c_t_c, .double c_t_d])), (a_p1, .inr (7, [.ref a_p1_numbers, .ref a_p1_places, .ref a_p1_halves, .ref a_p1_bends, .int c_p1_size, .int c_p1_start, .int c_p1_end])), (a_p1_places, .inl (cI, 8, .inl c_p1_places)), (a_p1_bends, .inl (cD, 8, .inr (.inr (.inr (.inl c_p1_bends)))))] [(a_t, .inr (6, [.double R.1, .double R.2.1, .double R.2.2.1, .double R.2.2.2])), (a_p1, .inr (7, [.ref a_p1_numbers, .ref a_p1_places, .ref a_p1_halves, .ref a_p1_bends, .int c_p1_size, .int c_p1_start, .int c_p1_end])), (a_p1_places, .inl (cI, 8, .inl c_p1_places)), (a_p1_bends, .inl (cD, 8, .inr (.inr (.inr (.inl c_p1_bends)))))] 0 0 := by
  unfold f_X4_lay at h
  refine st_v (cc := cX4_lay) (maxL := 4) (by decide) rfl (Nat.le_of_ble_eq_true rfl) (fun p e s m av below meth c A Q ls hx hb hml hts hown hA hK hNM hZ hP hD hS hl hfin => ?_)
  have hown : s.vm.findClass RX4 = some m.cls := hown
  have hl : lv_has ls 4 [(0, .ref a_t), (1, .ref a_p1)] := hl
  refine lv_aload_n hx hb dX4_lay_0 rfl (lv_at hl 0 rfl) ?_
  obtain ⟨o1, e2, h⟩ := bd_e h
  refine co_v (W0 := [(a_t, .inr (6, [.double c_t_a, .double c_t_b, .double c_t_c, .double c_t_d]))]) (wr := [(a_p1, .inr (7, [.ref a_p1_numbers, .ref a_p1_places, .ref a_p1_halves, .ref a_p1_bends, .int c_p1_size, .int c_p1_start, .int c_p1_end])), (a_p1_places, .inl (cI, 8, .inl c_p1_places)), (a_p1_bends, .inl (cD, 8, .inr (.inr (.inr (.inl c_p1_bends)))))]) (W1 := [(a_t, .inr (6, [.double o1.1, .double o1.2.1, .double o1.2.2.1, .double o1.2.2.2]))]) (ws2 := [(a_t, .inr (6, [.double o1.1, .double o1.2.1, .double o1.2.2.1, .double o1.2.2.2])), (a_p1, .inr (7, [.ref a_p1_numbers, .ref a_p1_places, .ref a_p1_halves, .ref a_p1_bends, .int c_p1_size, .int c_p1_start, .int c_p1_end])), (a_p1_places, .inl (cI, 8, .inl c_p1_places)), (a_p1_bends, .inl (cD, 8, .inr (.inr (.inr (.inl c_p1_bends)))))]) (va_runV (C := RX4) (As := []) (rest := []) ⟨hx, hb, hml, hown, hts⟩ (m_X4_clear l D cI cD cB a_t c_t_a c_t_b c_t_c c_t_d o1 e2 _) (cwV 0 hts gX4_lay_X4_clear rfl rfl rfl (by decide +kernel) ⟨Nat.le_of_ble_eq_true rfl, Nat.le_of_ble_eq_true rfl⟩) (my_preV (q := (RX4, TX4, 4)) (ci := 6) (q0 := 0) [0] hP hK hNM hZ hD hS hA rfl rfl rfl rfl) rfl rfl hl.1 rfl (lv_room (Nat.le_of_ble_eq_true rfl)) dX4_lay_1 ⟨Nat.zero_le _, Nat.zero_le _⟩) hP hD hS hA [0] [1, 2, 3] [3, 0, 1, 2] rfl rfl rfl rfl rfl (by decide) (fun H locs hP hD hS => ?_)
  refine lv_aload_n hx hb dX4_lay_4 rfl (lv_at hl 1 rfl) ?_
  refine va_get (D := D) (ci := 7) (v := .int c_p1_start) (C := RX5) (T := TX5) (N := 7) hx hb hts mc_X4_lay_X5 hown hK hP 1 rfl rfl 5 (by decide) (hts _ mf_X4_lay_25) (fun _ h9 => h9) rfl dX4_lay_5 ?_
  refine lv_istore_n (lv' := [(2, .int c_p1_start), (0, .ref a_t), (1, .ref a_p1)]) hx hb dX4_lay_8 rfl hl (by decide) rfl (fun ls hl => ?_)
  refine lv_iconst (v := (0 : Int32)) hx hb dX4_lay_9 (by decide) ?_
  refine lv_istore_n (lv' := [(3, .int (0 : Int32)), (2, .int c_p1_start), (0, .ref a_t), (1, .ref a_p1)]) hx hb dX4_lay_10 rfl hl (by decide) rfl (fun ls hl => ?_)
  have LOOP1 : ∀ (n1 : Nat) (s1 : Int32 × Int32 × UInt64 × UInt64 × UInt64 × UInt64) (H : Heap) (locs : List Loc) (ls : Array Slot), va_P D vwCl [(a_t, .inr (6, [.double s1.2.2.1, .double s1.2.2.2.1, .double s1.2.2.2.2.1, .double s1.2.2.2.2.2])), (a_p1, .inr (7, [.ref a_p1_numbers, .ref a_p1_places, .ref a_p1_halves, .ref a_p1_bends, .int c_p1_size, .int c_p1_start, .int c_p1_end])), (a_p1_places, .inl (cI, 8, .inl c_p1_places)), (a_p1_bends, .inl (cD, 8, .inr (.inr (.inr (.inl c_p1_bends)))))] H → va_D A [(a_t, .inr (6, [.double s1.2.2.1, .double s1.2.2.2.1, .double s1.2.2.2.2.1, .double s1.2.2.2.2.2])), (a_p1, .inr (7, [.ref a_p1_numbers, .ref a_p1_places, .ref a_p1_halves, .ref a_p1_bends, .int c_p1_size, .int c_p1_start, .int c_p1_end])), (a_p1_places, .inl (cI, 8, .inl c_p1_places)), (a_p1_bends, .inl (cD, 8, .inr (.inr (.inr (.inl c_p1_bends)))))] → va_S A s.heap H locs → lv_has ls 4 [(3, .int s1.1), (2, .int s1.2.1), (0, .ref a_t), (1, .ref a_p1)] → lp (f_X4_lay_b1 c_p1_size c_p1_places c_p1_bends) n1 s1 = some R → W p l e rm_X4_lay s m av below meth c H locs 0 0 Q (F0 m 11 ls []) := by
    intro n1
    induction n1 with
    | zero => intro s1 H locs ls hP hD hS hl h; exact lp_0 h
    | succ n1 ih1 =>
      intro s1 H locs ls hP hD hS hl h
      replace h := lp_s h
      unfold f_X4_lay_b1 at h
      refine lv_iload_n hx hb dX4_lay_11 rfl (lv_at hl 0 rfl) ?_
      refine lv_aload_n hx hb dX4_lay_12 rfl (lv_at hl 3 rfl) ?_
      refine va_get (D := D) (ci := 7) (v := .int c_p1_size) (C := RX5) (T := TX5) (N := 7) hx hb hts mc_X4_lay_X5 hown hK hP 1 rfl rfl 4 (by decide) (hts _ mf_X4_lay_31) (fun _ h9 => h9) rfl dX4_lay_13 ?_
      refine lv_icmp_ge (tgt := 54) hx hb dX4_lay_16 (by decide) (fun q3 => ?_) (fun q3 => ?_)
      · replace h := ifp h q3
        rw [← some_e h] at hfin
        exact hfin 54 _ _ _ dX4_lay_54 hP hD hS
      · replace h := ifn h q3
        refine lv_aload_n hx hb dX4_lay_19 rfl (lv_at hl 2 rfl) ?_
        refine lv_aload_n hx hb dX4_lay_20 rfl (lv_at hl 3 rfl) ?_
        refine va_get (D := D) (ci := 7) (v := .ref a_p1_places) (C := RX5) (T := TX5) (N := 7) hx hb hts mc_X4_lay_X5 hown hK hP 1 rfl rfl 1 (by decide) (hts _ mf_X4_lay_34) (fun _ h9 => h9) rfl dX4_lay_21 ?_
        refine lv_iload_n hx hb dX4_lay_24 rfl (lv_at hl 0 rfl) ?_
        obtain ⟨g4, h⟩ := gd_e h
        refine va_iald hx hb hK hP 2 0 rfl rfl (vin_in g4) dX4_lay_25 ?_
        refine lv_iload_n hx hb dX4_lay_26 rfl (lv_at hl 1 rfl) ?_
        refine lv_isub hx hb dX4_lay_27 ?_
        obtain ⟨o5, e6, h⟩ := bd_e h
        refine co_v (W0 := [(a_t, .inr (6, [.double s1.2.2.1, .double s1.2.2.2.1, .double s1.2.2.2.2.1, .double s1.2.2.2.2.2]))]) (wr := [(a_p1, .inr (7, [.ref a_p1_numbers, .ref a_p1_places, .ref a_p1_halves, .ref a_p1_bends, .int c_p1_size, .int c_p1_start, .int c_p1_end])), (a_p1_places, .inl (cI, 8, .inl c_p1_places)), (a_p1_bends, .inl (cD, 8, .inr (.inr (.inr (.inl c_p1_bends)))))]) (W1 := [(a_t, .inr (6, [.double o5.1, .double o5.2, .double s1.2.2.2.2.1, .double s1.2.2.2.2.2]))]) (ws2 := [(a_t, .inr (6, [.double o5.1, .double o5.2, .double s1.2.2.2.2.1, .double s1.2.2.2.2.2])), (a_p1, .inr (7, [.ref a_p1_numbers, .ref a_p1_places, .ref a_p1_halves, .ref a_p1_bends, .int c_p1_size, .int c_p1_start, .int c_p1_end])), (a_p1_places, .inl (cI, 8, .inl c_p1_places)), (a_p1_bends, .inl (cD, 8, .inr (.inr (.inr (.inl c_p1_bends)))))]) (va_runV (C := RX4) (As := [.int ((c_p1_places (s1.1).toNatClampNeg) - s1.2.1)]) (rest := []) ⟨hx, hb, hml, hown, hts⟩ (m_X4_goOn l D cI cD cB a_t ((c_p1_places (s1.1).toNatClampNeg) - s1.2.1) s1.2.2.1 s1.2.2.2.1 s1.2.2.2.2.1 s1.2.2.2.2.2 o5 e6 _) (cwV 1 hts gX4_lay_X4_goOn rfl rfl rfl (by decide +kernel) ⟨Nat.le_of_ble_eq_true rfl, Nat.le_of_ble_eq_true rfl⟩) (my_preV (q := (RX4, TX4, 4)) (ci := 6) (q0 := 0) [0] hP hK hNM hZ hD hS hA rfl rfl rfl rfl) rfl rfl hl.1 rfl (lv_room (Nat.le_of_ble_eq_true rfl)) dX4_lay_28 ⟨Nat.zero_le _, Nat.zero_le _⟩) hP hD hS hA [0] [1, 2, 3] [3, 0, 1, 2] rfl rfl rfl rfl rfl (by decide) (fun H locs hP hD hS => ?_)
        refine lv_aload_n hx hb dX4_lay_31 rfl (lv_at hl 3 rfl) ?_
        refine va_get (D := D) (ci := 7) (v := .ref a_p1_places) (C := RX5) (T := TX5) (N := 7) hx hb hts mc_X4_lay_X5 hown hK hP 1 rfl rfl 1 (by decide) (hts _ mf_X4_lay_34) (fun _ h9 => h9) rfl dX4_lay_32 ?_
        refine lv_iload_n hx hb dX4_lay_35 rfl (lv_at hl 0 rfl) ?_
        obtain ⟨g7, h⟩ := gd_e h
        refine va_iald hx hb hK hP 2 0 rfl rfl (vin_in g7) dX4_lay_36 ?_
        refine lv_istore_n (lv' := [(2, .int (c_p1_places (s1.1).toNatClampNeg)), (3, .int s1.1), (0, .ref a_t), (1, .ref a_p1)]) hx hb dX4_lay_37 rfl hl (by decide) rfl (fun ls hl => ?_)
        refine lv_aload_n hx hb dX4_lay_38 rfl (lv_at hl 2 rfl) ?_
        refine lv_aload_n hx hb dX4_lay_39 rfl (lv_at hl 3 rfl) ?_
        refine va_get (D := D) (ci := 7) (v := .ref a_p1_bends) (C := RX5) (T := TX5) (N := 7) hx hb hts mc_X4_lay_X5 hown hK hP 1 rfl rfl 3 (by decide) (hts _ mf_X4_lay_42) (fun _ h9 => h9) rfl dX4_lay_40 ?_
        refine lv_iload_n hx hb dX4_lay_43 rfl (lv_at hl 1 rfl) ?_
        obtain ⟨g8, h⟩ := gd_e h
        refine va_dald hx hb hK hP 3 1 rfl rfl (vin_in g8) dX4_lay_44 ?_
        obtain ⟨o9, e10, h⟩ := bd_e h
        refine co_v (W0 := [(a_t, .inr (6, [.double o5.1, .double o5.2, .double s1.2.2.2.2.1, .double s1.2.2.2.2.2]))]) (wr := [(a_p1, .inr (7, [.ref a_p1_numbers, .ref a_p1_places, .ref a_p1_halves, .ref a_p1_bends, .int c_p1_size, .int c_p1_start, .int c_p1_end])), (a_p1_places, .inl (cI, 8, .inl c_p1_places)), (a_p1_bends, .inl (cD, 8, .inr (.inr (.inr (.inl c_p1_bends)))))]) (W1 := [(a_t, .inr (6, [.double o5.1, .double o5.2, .double o9.1, .double o9.2]))]) (ws2 := [(a_t, .inr (6, [.double o5.1, .double o5.2, .double o9.1, .double o9.2])), (a_p1, .inr (7, [.ref a_p1_numbers, .ref a_p1_places, .ref a_p1_halves, .ref a_p1_bends, .int c_p1_size, .int c_p1_start, .int c_p1_end])), (a_p1_places, .inl (cI, 8, .inl c_p1_places)), (a_p1_bends, .inl (cD, 8, .inr (.inr (.inr (.inl c_p1_bends)))))]) (va_runV (C := RX4) (As := [.double (c_p1_bends (s1.1).toNatClampNeg)]) (rest := []) ⟨hx, hb, hml, hown, hts⟩ (m_X4_bend l D cI cD cB a_t (c_p1_bends (s1.1).toNatClampNeg) o5.1 o5.2 s1.2.2.2.2.1 s1.2.2.2.2.2 o9 e10 _) (cwV 1 hts gX4_lay_X4_bend rfl rfl rfl (by decide +kernel) ⟨Nat.le_of_ble_eq_true rfl, Nat.le_of_ble_eq_true rfl⟩) (my_preV (q := (RX4, TX4, 4)) (ci := 6) (q0 := 0) [0] hP hK hNM hZ hD hS hA rfl rfl rfl rfl) rfl rfl hl.1 rfl (lv_room (Nat.le_of_ble_eq_true rfl)) dX4_lay_45 ⟨Nat.zero_le _, Nat.zero_le _⟩) hP hD hS hA [0] [1, 2, 3] [3, 0, 1, 2] rfl rfl rfl rfl rfl (by decide) (fun H locs hP hD hS => ?_)
        refine lv_iinc (v := (s1.1 + (1 : Int32))) (lv' := [(3, .int (s1.1 + (1 : Int32))), (2, .int (c_p1_places (s1.1).toNatClampNeg)), (0, .ref a_t), (1, .ref a_p1)]) hx hb dX4_lay_48 hl (k := 1) rfl rfl (by decide) rfl (fun ls hl => ?_)
        refine lv_goto (tgt := 11) hx hb dX4_lay_51 (by decide) ?_
        exact ih1 ((s1.1 + (1 : Int32)), (c_p1_places (s1.1).toNatClampNeg), o5.1, o5.2, o9.1, o9.2) _ _ _ hP hD hS (lv_sub hl [0, 1, 2, 3] rfl) h
  exact LOOP1 1000 ((0 : Int32), c_p1_start, o1.1, o1.2.1, o1.2.2.1, o1.2.2.2) _ _ _ hP hD hS hl h
theorem mc_X4_magnification_X4 : ∀ w ∈ wsX40, w ∈ wsX4_magnification := by decide +kernel
theorem mf_X4_magnification_16 : Cond.fieldLink RX4 16 "Lensbench$Table" "c" "D" ∈ wsX4_magnification := by decide +kernel
theorem mf_X4_magnification_7 : Cond.fieldLink RX4 7 "Lensbench$Table" "a" "D" ∈ wsX4_magnification := by decide +kernel
abbrev rm_X4_magnification : Room := { frames := 3, cells := 0, slots := 0, locals := 62 }
set_option maxHeartbeats 4000000 in
set_option maxRecDepth 100000 in
theorem m_X4_magnification (l : Launch) (D : va_G) (cI cD cB : ClassId) (a_t : Nat) (c_t_a : UInt64) (c_t_b : UInt64) (c_t_c : UInt64) (c_t_d : UInt64) (R : UInt64) (h : f_X4_magnification c_t_a c_t_b c_t_c c_t_d = some R) : Cd l yX4_magnification wsX4_magnification rm_X4_magnification D (TT cI cD cB) [.ref a_t] [(a_t, .inr (6, [.double c_t_a, .double c_t_b, .double c_t_c, .double c_t_d]))] [(a_t, .inr (6, [.double c_t_a, .double c_t_b, .double c_t_c, .double c_t_d]))] R 0 0 := by
  unfold f_X4_magnification at h
  refine st_d (cc := cX4_magnification) (maxL := 1) (by decide) rfl (Nat.le_of_ble_eq_true rfl) (fun p e s m av below meth c A Q ls hx hb hml hts hown hA hK hNM hZ hP hD hS hl hfin => ?_)
  have hown : s.vm.findClass RX4 = some m.cls := hown
  have hl : lv_has ls 1 [(0, .ref a_t)] := hl
  refine lv_aload_n hx hb dX4_magnification_0 rfl (lv_at hl 0 rfl) ?_
  refine va_get (D := D) (ci := 6) (v := .double c_t_a) (C := RX4) (T := TX4) (N := 4) hx hb hts mc_X4_magnification_X4 hown hK hP 0 rfl rfl 0 (by decide) (hts _ mf_X4_magnification_7) (fun _ h9 => h9) rfl dX4_magnification_1 ?_
  refine lv_aload_n hx hb dX4_magnification_4 rfl (lv_at hl 0 rfl) ?_
  refine va_get (D := D) (ci := 6) (v := .double c_t_c) (C := RX4) (T := TX4) (N := 4) hx hb hts mc_X4_magnification_X4 hown hK hP 0 rfl rfl 2 (by decide) (hts _ mf_X4_magnification_16) (fun _ h9 => h9) rfl dX4_magnification_5 ?_
  refine lv_aload_n hx hb dX4_magnification_8 rfl (lv_at hl 0 rfl) ?_
  obtain ⟨o1, e2, h⟩ := bd_e h
  refine co_d (W0 := [(a_t, .inr (6, [.double c_t_a, .double c_t_b, .double c_t_c, .double c_t_d]))]) (wr := []) (W1 := [(a_t, .inr (6, [.double c_t_a, .double c_t_b, .double c_t_c, .double c_t_d]))]) (ws2 := [(a_t, .inr (6, [.double c_t_a, .double c_t_b, .double c_t_c, .double c_t_d]))]) (va_runV (C := RX4) (As := []) (rest := [.double c_t_c, .double c_t_a]) ⟨hx, hb, hml, hown, hts⟩ (m_X4_back l D cI cD cB a_t c_t_a c_t_b c_t_c c_t_d o1 e2 _) (cwV 0 hts gX4_magnification_X4_back rfl rfl rfl (by decide +kernel) ⟨Nat.le_of_ble_eq_true rfl, Nat.le_of_ble_eq_true rfl⟩) (my_preV (q := (RX4, TX4, 4)) (ci := 6) (q0 := 0) [0] hP hK hNM hZ hD hS hA rfl rfl rfl rfl) rfl rfl hl.1 rfl (lv_room (Nat.le_of_ble_eq_true rfl)) dX4_magnification_9 ⟨Nat.zero_le _, Nat.zero_le _⟩) hP hD hS hA [0] [] [0] rfl rfl rfl rfl rfl (by decide) (fun H locs hP hD hS => ?_)
  obtain ⟨g3, h⟩ := gd_e h
  refine lv_dmul hx hb dX4_magnification_12 (n64_n g3) ?_
  obtain ⟨g4, h⟩ := gd_e h
  refine lv_dadd hx hb dX4_magnification_13 (n64_n g4) ?_
  rw [← some_e h] at hfin
  exact hfin 14 _ _ _ dX4_magnification_14 hP hD hS
theorem mc_X5_clear_X5 : ∀ w ∈ wsX50, w ∈ wsX5_clear := by decide +kernel
theorem mf_X5_clear_25 : Cond.fieldLink RX5 25 "Lensbench$Train" "size" "I" ∈ wsX5_clear := by decide +kernel
theorem mf_X5_clear_29 : Cond.fieldLink RX5 29 "Lensbench$Train" "start" "I" ∈ wsX5_clear := by decide +kernel
theorem mf_X5_clear_32 : Cond.fieldLink RX5 32 "Lensbench$Train" "end" "I" ∈ wsX5_clear := by decide +kernel
abbrev rm_X5_clear : Room := { frames := 0, cells := 0, slots := 0, locals := 0 }
set_option maxHeartbeats 4000000 in
set_option maxRecDepth 100000 in
theorem m_X5_clear (l : Launch) (D : va_G) (cI cD cB : ClassId) (a_t : Nat) (a_t_numbers : Nat) (a_t_places : Nat) (a_t_halves : Nat) (a_t_bends : Nat) (p1 : Int32) (p2 : Int32) (c_t_size : Int32) (c_t_start : Int32) (c_t_end : Int32) (R : Int32 × Int32 × Int32) (h : f_X5_clear p1 p2 = some R) : Cv l yX5_clear wsX5_clear rm_X5_clear D (TT cI cD cB) [.ref a_t, .int p1, .int p2] [(a_t, .inr (7, [.ref a_t_numbers, .ref a_t_places, .ref a_t_halves, .ref a_t_bends, .int c_t_size, .int c_t_start, .int c_t_end]))] [(a_t, .inr (7, [.ref a_t_numbers, .ref a_t_places, .ref a_t_halves, .ref a_t_bends, .int R.1, .int R.2.1, .int R.2.2]))] 0 0 := by
  unfold f_X5_clear at h
  refine st_v (cc := cX5_clear) (maxL := 3) (by decide) rfl (Nat.le_of_ble_eq_true rfl) (fun p e s m av below meth c A Q ls hx hb hml hts hown hA hK hNM hZ hP hD hS hl hfin => ?_)
  have hown : s.vm.findClass RX5 = some m.cls := hown
  have hl : lv_has ls 3 [(0, .ref a_t), (1, .int p1), (2, .int p2)] := hl
  refine lv_aload_n hx hb dX5_clear_0 rfl (lv_at hl 0 rfl) ?_
  refine lv_iconst (v := (0 : Int32)) hx hb dX5_clear_1 (by decide) ?_
  refine va_put (D := D) (ci := 7) (v := .int (0 : Int32)) (ty := .int) (C := RX5) (T := TX5) (N := 7) hx hb hts mc_X5_clear_X5 tyX5 tyX5_ok nmX5 hown hK hP hD hS 0 rfl rfl 4 (by decide) (hts _ mf_X5_clear_25) (fun _ h9 => h9) rfl (tyX5_ok 4 (by decide)) rfl rfl (Nat.le_of_ble_eq_true rfl) dX5_clear_2 (fun H locs hP hD hS => ?_)
  have hP : va_P D vwCl [(a_t, .inr (7, [.ref a_t_numbers, .ref a_t_places, .ref a_t_halves, .ref a_t_bends, .int (0 : Int32), .int c_t_start, .int c_t_end]))] H := hP
  have hD : va_D A [(a_t, .inr (7, [.ref a_t_numbers, .ref a_t_places, .ref a_t_halves, .ref a_t_bends, .int (0 : Int32), .int c_t_start, .int c_t_end]))] := hD
  refine lv_aload_n hx hb dX5_clear_5 rfl (lv_at hl 0 rfl) ?_
  refine lv_iload_n hx hb dX5_clear_6 rfl (lv_at hl 1 rfl) ?_
  refine va_put (D := D) (ci := 7) (v := .int p1) (ty := .int) (C := RX5) (T := TX5) (N := 7) hx hb hts mc_X5_clear_X5 tyX5 tyX5_ok nmX5 hown hK hP hD hS 0 rfl rfl 5 (by decide) (hts _ mf_X5_clear_29) (fun _ h9 => h9) rfl (tyX5_ok 5 (by decide)) rfl rfl (Nat.le_of_ble_eq_true rfl) dX5_clear_7 (fun H locs hP hD hS => ?_)
  have hP : va_P D vwCl [(a_t, .inr (7, [.ref a_t_numbers, .ref a_t_places, .ref a_t_halves, .ref a_t_bends, .int (0 : Int32), .int p1, .int c_t_end]))] H := hP
  have hD : va_D A [(a_t, .inr (7, [.ref a_t_numbers, .ref a_t_places, .ref a_t_halves, .ref a_t_bends, .int (0 : Int32), .int p1, .int c_t_end]))] := hD
  refine lv_aload_n hx hb dX5_clear_10 rfl (lv_at hl 0 rfl) ?_
  refine lv_iload_n hx hb dX5_clear_11 rfl (lv_at hl 2 rfl) ?_
  refine va_put (D := D) (ci := 7) (v := .int p2) (ty := .int) (C := RX5) (T := TX5) (N := 7) hx hb hts mc_X5_clear_X5 tyX5 tyX5_ok nmX5 hown hK hP hD hS 0 rfl rfl 6 (by decide) (hts _ mf_X5_clear_32) (fun _ h9 => h9) rfl (tyX5_ok 6 (by decide)) rfl rfl (Nat.le_of_ble_eq_true rfl) dX5_clear_12 (fun H locs hP hD hS => ?_)
  have hP : va_P D vwCl [(a_t, .inr (7, [.ref a_t_numbers, .ref a_t_places, .ref a_t_halves, .ref a_t_bends, .int (0 : Int32), .int p1, .int p2]))] H := hP
  have hD : va_D A [(a_t, .inr (7, [.ref a_t_numbers, .ref a_t_places, .ref a_t_halves, .ref a_t_bends, .int (0 : Int32), .int p1, .int p2]))] := hD
  rw [← some_e h] at hfin
  exact hfin 15 _ _ _ dX5_clear_15 hP hD hS
theorem mc_X5_join_X5 : ∀ w ∈ wsX50, w ∈ wsX5_join := by decide +kernel
theorem mf_X5_join_15 : Cond.fieldLink RX5 15 "Lensbench$Train" "places" "[I" ∈ wsX5_join := by decide +kernel
theorem mf_X5_join_18 : Cond.fieldLink RX5 18 "Lensbench$Train" "halves" "[I" ∈ wsX5_join := by decide +kernel
theorem mf_X5_join_21 : Cond.fieldLink RX5 21 "Lensbench$Train" "bends" "[D" ∈ wsX5_join := by decide +kernel
theorem mf_X5_join_25 : Cond.fieldLink RX5 25 "Lensbench$Train" "size" "I" ∈ wsX5_join := by decide +kernel
theorem mf_X5_join_29 : Cond.fieldLink RX5 29 "Lensbench$Train" "start" "I" ∈ wsX5_join := by decide +kernel
theorem mf_X5_join_32 : Cond.fieldLink RX5 32 "Lensbench$Train" "end" "I" ∈ wsX5_join := by decide +kernel
theorem mf_X5_join_9 : Cond.fieldLink RX5 9 "Lensbench$Train" "numbers" "[I" ∈ wsX5_join := by decide +kernel
abbrev rm_X5_join : Room := { frames := 0, cells := 0, slots := 0, locals := 0 }
set_option maxHeartbeats 4000000 in
set_option maxRecDepth 100000 in
theorem m_X5_join (l : Launch) (D : va_G) (cI cD cB : ClassId) (a_t : Nat) (a_t_numbers : Nat) (a_t_places : Nat) (a_t_halves : Nat) (a_t_bends : Nat) (p1 : Int32) (p2 : Int32) (p3 : Int32) (p4 : UInt64) (c_t_size : Int32) (c_t_start : Int32) (c_t_end : Int32) (c_t_numbers : Nat → Int32) (c_t_places : Nat → Int32) (c_t_halves : Nat → Int32) (c_t_bends : Nat → UInt64) (R : Int32 × (Nat → Int32) × (Nat → Int32) × (Nat → Int32) × (Nat → UInt64)) (h : f_X5_join p1 p2 p3 p4 c_t_size c_t_start c_t_end c_t_numbers c_t_places c_t_halves c_t_bends = some R) : Cv l yX5_join wsX5_join rm_X5_join D (TT cI cD cB) [.ref a_t, .int p1, .int p2, .int p3, .double p4] [(a_t, .inr (7, [.ref a_t_numbers, .ref a_t_places, .ref a_t_halves, .ref a_t_bends, .int c_t_size, .int c_t_start, .int c_t_end])), (a_t_numbers, .inl (cI, 8, .inl c_t_numbers)), (a_t_places, .inl (cI, 8, .inl c_t_places)), (a_t_halves, .inl (cI, 8, .inl c_t_halves)), (a_t_bends, .inl (cD, 8, .inr (.inr (.inr (.inl c_t_bends)))))] [(a_t, .inr (7, [.ref a_t_numbers, .ref a_t_places, .ref a_t_halves, .ref a_t_bends, .int R.1, .int c_t_start, .int c_t_end])), (a_t_numbers, .inl (cI, 8, .inl R.2.1)), (a_t_places, .inl (cI, 8, .inl R.2.2.1)), (a_t_halves, .inl (cI, 8, .inl R.2.2.2.1)), (a_t_bends, .inl (cD, 8, .inr (.inr (.inr (.inl R.2.2.2.2)))))] 0 0 := by
  unfold f_X5_join at h
  refine st_v (cc := cX5_join) (maxL := 7) (by decide) rfl (Nat.le_of_ble_eq_true rfl) (fun p e s m av below meth c A Q ls hx hb hml hts hown hA hK hNM hZ hP hD hS hl hfin => ?_)
  have hown : s.vm.findClass RX5 = some m.cls := hown
  have hl : lv_has ls 7 [(0, .ref a_t), (1, .int p1), (2, .int p2), (3, .int p3), (4, .double p4)] := hl
  refine lv_iload_n hx hb dX5_join_0 rfl (lv_at hl 2 rfl) ?_
  refine lv_aload_n hx hb dX5_join_1 rfl (lv_at hl 0 rfl) ?_
  refine va_get (D := D) (ci := 7) (v := .int c_t_start) (C := RX5) (T := TX5) (N := 7) hx hb hts mc_X5_join_X5 hown hK hP 0 rfl rfl 5 (by decide) (hts _ mf_X5_join_29) (fun _ h9 => h9) rfl dX5_join_2 ?_
  refine lv_icmp_le (tgt := 25) hx hb dX5_join_5 (by decide) (fun q1 => ?_) (fun q1 => ?_)
  · replace h := ifp h q1
    rw [← some_e h] at hfin
    exact hfin 25 _ _ _ dX5_join_25 hP hD hS
  · replace h := ifn h q1
    refine lv_iload_n hx hb dX5_join_8 rfl (lv_at hl 2 rfl) ?_
    refine lv_aload_n hx hb dX5_join_9 rfl (lv_at hl 0 rfl) ?_
    refine va_get (D := D) (ci := 7) (v := .int c_t_end) (C := RX5) (T := TX5) (N := 7) hx hb hts mc_X5_join_X5 hown hK hP 0 rfl rfl 6 (by decide) (hts _ mf_X5_join_32) (fun _ h9 => h9) rfl dX5_join_10 ?_
    refine lv_icmp_ge (tgt := 25) hx hb dX5_join_13 (by decide) (fun q2 => ?_) (fun q2 => ?_)
    · replace h := ifp h q2
      rw [← some_e h] at hfin
      exact hfin 25 _ _ _ dX5_join_25 hP hD hS
    · replace h := ifn h q2
      refine lv_aload_n hx hb dX5_join_16 rfl (lv_at hl 0 rfl) ?_
      refine va_get (D := D) (ci := 7) (v := .int c_t_size) (C := RX5) (T := TX5) (N := 7) hx hb hts mc_X5_join_X5 hown hK hP 0 rfl rfl 4 (by decide) (hts _ mf_X5_join_25) (fun _ h9 => h9) rfl dX5_join_17 ?_
      refine lv_bipush (v := (8 : Int32)) hx hb dX5_join_20 (by decide) ?_
      refine lv_icmp_lt (tgt := 26) hx hb dX5_join_22 (by decide) (fun q3 => ?_) (fun q3 => ?_)
      · replace h := ifp h q3
        refine lv_aload_n hx hb dX5_join_26 rfl (lv_at hl 0 rfl) ?_
        refine va_get (D := D) (ci := 7) (v := .int c_t_size) (C := RX5) (T := TX5) (N := 7) hx hb hts mc_X5_join_X5 hown hK hP 0 rfl rfl 4 (by decide) (hts _ mf_X5_join_25) (fun _ h9 => h9) rfl dX5_join_27 ?_
        refine lv_istore (lv' := [(6, .int c_t_size), (0, .ref a_t), (1, .int p1), (2, .int p2), (3, .int p3), (4, .double p4)]) hx hb dX5_join_30 hl (by decide) rfl (fun ls hl => ?_)
        have LOOP1 : ∀ (n1 : Nat) (s1 : Int32 × (Nat → Int32) × (Nat → Int32) × (Nat → Int32) × (Nat → UInt64)) (H : Heap) (locs : List Loc) (ls : Array Slot), va_P D vwCl [(a_t, .inr (7, [.ref a_t_numbers, .ref a_t_places, .ref a_t_halves, .ref a_t_bends, .int c_t_size, .int c_t_start, .int c_t_end])), (a_t_numbers, .inl (cI, 8, .inl s1.2.1)), (a_t_places, .inl (cI, 8, .inl s1.2.2.1)), (a_t_halves, .inl (cI, 8, .inl s1.2.2.2.1)), (a_t_bends, .inl (cD, 8, .inr (.inr (.inr (.inl s1.2.2.2.2)))))] H → va_D A [(a_t, .inr (7, [.ref a_t_numbers, .ref a_t_places, .ref a_t_halves, .ref a_t_bends, .int c_t_size, .int c_t_start, .int c_t_end])), (a_t_numbers, .inl (cI, 8, .inl s1.2.1)), (a_t_places, .inl (cI, 8, .inl s1.2.2.1)), (a_t_halves, .inl (cI, 8, .inl s1.2.2.2.1)), (a_t_bends, .inl (cD, 8, .inr (.inr (.inr (.inl s1.2.2.2.2)))))] → va_S A s.heap H locs → lv_has ls 7 [(6, .int s1.1), (0, .ref a_t), (1, .int p1), (2, .int p2), (3, .int p3), (4, .double p4)] → lp (f_X5_join_b1 p1 p2 p3 p4 c_t_size) n1 s1 = some R → W p l e rm_X5_join s m av below meth c H locs 0 0 Q (F0 m 32 ls []) := by
          intro n1
          induction n1 with
          | zero => intro s1 H locs ls hP hD hS hl h; exact lp_0 h
          | succ n1 ih1 =>
            intro s1 H locs ls hP hD hS hl h
            replace h := lp_s h
            unfold f_X5_join_b1 at h
            refine lv_iload hx hb dX5_join_32 (lv_at hl 0 rfl) ?_
            refine lv_if_le (tgt := 120) hx hb dX5_join_34 (by decide) (fun q4 => ?_) (fun q4 => ?_)
            · replace h := ifp h q4
              refine lv_aload_n hx hb dX5_join_120 rfl (lv_at hl 1 rfl) ?_
              refine va_get (D := D) (ci := 7) (v := .ref a_t_numbers) (C := RX5) (T := TX5) (N := 7) hx hb hts mc_X5_join_X5 hown hK hP 0 rfl rfl 0 (by decide) (hts _ mf_X5_join_9) (fun _ h9 => h9) rfl dX5_join_121 ?_
              refine lv_iload hx hb dX5_join_124 (lv_at hl 0 rfl) ?_
              refine lv_iload_n hx hb dX5_join_126 rfl (lv_at hl 2 rfl) ?_
              obtain ⟨g5, h⟩ := gd_e h
              refine va_iast hx hb hK hP hD hS 1 0 rfl rfl (vin_in g5) dX5_join_127 (fun H locs hP hD hS => ?_)
              have hP : va_P D vwCl [(a_t, .inr (7, [.ref a_t_numbers, .ref a_t_places, .ref a_t_halves, .ref a_t_bends, .int c_t_size, .int c_t_start, .int c_t_end])), (a_t_numbers, .inl (cI, 8, .inl (upd s1.2.1 (s1.1).toNatClampNeg p1))), (a_t_places, .inl (cI, 8, .inl s1.2.2.1)), (a_t_halves, .inl (cI, 8, .inl s1.2.2.2.1)), (a_t_bends, .inl (cD, 8, .inr (.inr (.inr (.inl s1.2.2.2.2)))))] H := hP
              have hD : va_D A [(a_t, .inr (7, [.ref a_t_numbers, .ref a_t_places, .ref a_t_halves, .ref a_t_bends, .int c_t_size, .int c_t_start, .int c_t_end])), (a_t_numbers, .inl (cI, 8, .inl (upd s1.2.1 (s1.1).toNatClampNeg p1))), (a_t_places, .inl (cI, 8, .inl s1.2.2.1)), (a_t_halves, .inl (cI, 8, .inl s1.2.2.2.1)), (a_t_bends, .inl (cD, 8, .inr (.inr (.inr (.inl s1.2.2.2.2)))))] := hD
              refine lv_aload_n hx hb dX5_join_128 rfl (lv_at hl 1 rfl) ?_
              refine va_get (D := D) (ci := 7) (v := .ref a_t_places) (C := RX5) (T := TX5) (N := 7) hx hb hts mc_X5_join_X5 hown hK hP 0 rfl rfl 1 (by decide) (hts _ mf_X5_join_15) (fun _ h9 => h9) rfl dX5_join_129 ?_
              refine lv_iload hx hb dX5_join_132 (lv_at hl 0 rfl) ?_
              refine lv_iload_n hx hb dX5_join_134 rfl (lv_at hl 3 rfl) ?_
              obtain ⟨g6, h⟩ := gd_e h
              refine va_iast hx hb hK hP hD hS 2 0 rfl rfl (vin_in g6) dX5_join_135 (fun H locs hP hD hS => ?_)
              have hP : va_P D vwCl [(a_t, .inr (7, [.ref a_t_numbers, .ref a_t_places, .ref a_t_halves, .ref a_t_bends, .int c_t_size, .int c_t_start, .int c_t_end])), (a_t_numbers, .inl (cI, 8, .inl (upd s1.2.1 (s1.1).toNatClampNeg p1))), (a_t_places, .inl (cI, 8, .inl (upd s1.2.2.1 (s1.1).toNatClampNeg p2))), (a_t_halves, .inl (cI, 8, .inl s1.2.2.2.1)), (a_t_bends, .inl (cD, 8, .inr (.inr (.inr (.inl s1.2.2.2.2)))))] H := hP
              have hD : va_D A [(a_t, .inr (7, [.ref a_t_numbers, .ref a_t_places, .ref a_t_halves, .ref a_t_bends, .int c_t_size, .int c_t_start, .int c_t_end])), (a_t_numbers, .inl (cI, 8, .inl (upd s1.2.1 (s1.1).toNatClampNeg p1))), (a_t_places, .inl (cI, 8, .inl (upd s1.2.2.1 (s1.1).toNatClampNeg p2))), (a_t_halves, .inl (cI, 8, .inl s1.2.2.2.1)), (a_t_bends, .inl (cD, 8, .inr (.inr (.inr (.inl s1.2.2.2.2)))))] := hD
              refine lv_aload_n hx hb dX5_join_136 rfl (lv_at hl 1 rfl) ?_
              refine va_get (D := D) (ci := 7) (v := .ref a_t_halves) (C := RX5) (T := TX5) (N := 7) hx hb hts mc_X5_join_X5 hown hK hP 0 rfl rfl 2 (by decide) (hts _ mf_X5_join_18) (fun _ h9 => h9) rfl dX5_join_137 ?_
              refine lv_iload hx hb dX5_join_140 (lv_at hl 0 rfl) ?_
              refine lv_iload_n hx hb dX5_join_142 rfl (lv_at hl 4 rfl) ?_
              obtain ⟨g7, h⟩ := gd_e h
              refine va_iast hx hb hK hP hD hS 3 0 rfl rfl (vin_in g7) dX5_join_143 (fun H locs hP hD hS => ?_)
              have hP : va_P D vwCl [(a_t, .inr (7, [.ref a_t_numbers, .ref a_t_places, .ref a_t_halves, .ref a_t_bends, .int c_t_size, .int c_t_start, .int c_t_end])), (a_t_numbers, .inl (cI, 8, .inl (upd s1.2.1 (s1.1).toNatClampNeg p1))), (a_t_places, .inl (cI, 8, .inl (upd s1.2.2.1 (s1.1).toNatClampNeg p2))), (a_t_halves, .inl (cI, 8, .inl (upd s1.2.2.2.1 (s1.1).toNatClampNeg p3))), (a_t_bends, .inl (cD, 8, .inr (.inr (.inr (.inl s1.2.2.2.2)))))] H := hP
              have hD : va_D A [(a_t, .inr (7, [.ref a_t_numbers, .ref a_t_places, .ref a_t_halves, .ref a_t_bends, .int c_t_size, .int c_t_start, .int c_t_end])), (a_t_numbers, .inl (cI, 8, .inl (upd s1.2.1 (s1.1).toNatClampNeg p1))), (a_t_places, .inl (cI, 8, .inl (upd s1.2.2.1 (s1.1).toNatClampNeg p2))), (a_t_halves, .inl (cI, 8, .inl (upd s1.2.2.2.1 (s1.1).toNatClampNeg p3))), (a_t_bends, .inl (cD, 8, .inr (.inr (.inr (.inl s1.2.2.2.2)))))] := hD
              refine lv_aload_n hx hb dX5_join_144 rfl (lv_at hl 1 rfl) ?_
              refine va_get (D := D) (ci := 7) (v := .ref a_t_bends) (C := RX5) (T := TX5) (N := 7) hx hb hts mc_X5_join_X5 hown hK hP 0 rfl rfl 3 (by decide) (hts _ mf_X5_join_21) (fun _ h9 => h9) rfl dX5_join_145 ?_
              refine lv_iload hx hb dX5_join_148 (lv_at hl 0 rfl) ?_
              refine lv_dload hx hb dX5_join_150 (lv_at hl 5 rfl) ?_
              obtain ⟨g8, h⟩ := gd_e h
              refine va_dast hx hb hK hP hD hS 4 1 rfl rfl (vin_in g8) dX5_join_152 (fun H locs hP hD hS => ?_)
              have hP : va_P D vwCl [(a_t, .inr (7, [.ref a_t_numbers, .ref a_t_places, .ref a_t_halves, .ref a_t_bends, .int c_t_size, .int c_t_start, .int c_t_end])), (a_t_numbers, .inl (cI, 8, .inl (upd s1.2.1 (s1.1).toNatClampNeg p1))), (a_t_places, .inl (cI, 8, .inl (upd s1.2.2.1 (s1.1).toNatClampNeg p2))), (a_t_halves, .inl (cI, 8, .inl (upd s1.2.2.2.1 (s1.1).toNatClampNeg p3))), (a_t_bends, .inl (cD, 8, .inr (.inr (.inr (.inl (vf_upd s1.2.2.2.2 (s1.1).toNatClampNeg p4))))))] H := hP
              have hD : va_D A [(a_t, .inr (7, [.ref a_t_numbers, .ref a_t_places, .ref a_t_halves, .ref a_t_bends, .int c_t_size, .int c_t_start, .int c_t_end])), (a_t_numbers, .inl (cI, 8, .inl (upd s1.2.1 (s1.1).toNatClampNeg p1))), (a_t_places, .inl (cI, 8, .inl (upd s1.2.2.1 (s1.1).toNatClampNeg p2))), (a_t_halves, .inl (cI, 8, .inl (upd s1.2.2.2.1 (s1.1).toNatClampNeg p3))), (a_t_bends, .inl (cD, 8, .inr (.inr (.inr (.inl (vf_upd s1.2.2.2.2 (s1.1).toNatClampNeg p4))))))] := hD
              refine lv_aload_n hx hb dX5_join_153 rfl (lv_at hl 1 rfl) ?_
              refine lv_dup hx hb dX5_join_154 rfl ?_
              refine va_get (D := D) (ci := 7) (v := .int c_t_size) (C := RX5) (T := TX5) (N := 7) hx hb hts mc_X5_join_X5 hown hK hP 0 rfl rfl 4 (by decide) (hts _ mf_X5_join_25) (fun _ h9 => h9) rfl dX5_join_155 ?_
              refine lv_iconst (v := (1 : Int32)) hx hb dX5_join_158 (by decide) ?_
              refine lv_iadd hx hb dX5_join_159 ?_
              refine va_put (D := D) (ci := 7) (v := .int (c_t_size + (1 : Int32))) (ty := .int) (C := RX5) (T := TX5) (N := 7) hx hb hts mc_X5_join_X5 tyX5 tyX5_ok nmX5 hown hK hP hD hS 0 rfl rfl 4 (by decide) (hts _ mf_X5_join_25) (fun _ h9 => h9) rfl (tyX5_ok 4 (by decide)) rfl rfl (Nat.le_of_ble_eq_true rfl) dX5_join_160 (fun H locs hP hD hS => ?_)
              have hP : va_P D vwCl [(a_t, .inr (7, [.ref a_t_numbers, .ref a_t_places, .ref a_t_halves, .ref a_t_bends, .int (c_t_size + (1 : Int32)), .int c_t_start, .int c_t_end])), (a_t_numbers, .inl (cI, 8, .inl (upd s1.2.1 (s1.1).toNatClampNeg p1))), (a_t_places, .inl (cI, 8, .inl (upd s1.2.2.1 (s1.1).toNatClampNeg p2))), (a_t_halves, .inl (cI, 8, .inl (upd s1.2.2.2.1 (s1.1).toNatClampNeg p3))), (a_t_bends, .inl (cD, 8, .inr (.inr (.inr (.inl (vf_upd s1.2.2.2.2 (s1.1).toNatClampNeg p4))))))] H := hP
              have hD : va_D A [(a_t, .inr (7, [.ref a_t_numbers, .ref a_t_places, .ref a_t_halves, .ref a_t_bends, .int (c_t_size + (1 : Int32)), .int c_t_start, .int c_t_end])), (a_t_numbers, .inl (cI, 8, .inl (upd s1.2.1 (s1.1).toNatClampNeg p1))), (a_t_places, .inl (cI, 8, .inl (upd s1.2.2.1 (s1.1).toNatClampNeg p2))), (a_t_halves, .inl (cI, 8, .inl (upd s1.2.2.2.1 (s1.1).toNatClampNeg p3))), (a_t_bends, .inl (cD, 8, .inr (.inr (.inr (.inl (vf_upd s1.2.2.2.2 (s1.1).toNatClampNeg p4))))))] := hD
              rw [← some_e h] at hfin
              exact hfin 163 _ _ _ dX5_join_163 hP hD hS
            · replace h := ifn h q4
              refine lv_aload_n hx hb dX5_join_37 rfl (lv_at hl 1 rfl) ?_
              refine va_get (D := D) (ci := 7) (v := .ref a_t_places) (C := RX5) (T := TX5) (N := 7) hx hb hts mc_X5_join_X5 hown hK hP 0 rfl rfl 1 (by decide) (hts _ mf_X5_join_15) (fun _ h9 => h9) rfl dX5_join_38 ?_
              refine lv_iload hx hb dX5_join_41 (lv_at hl 0 rfl) ?_
              refine lv_iconst (v := (1 : Int32)) hx hb dX5_join_43 (by decide) ?_
              refine lv_isub hx hb dX5_join_44 ?_
              obtain ⟨g9, h⟩ := gd_e h
              refine va_iald hx hb hK hP 2 0 rfl rfl (vin_in g9) dX5_join_45 ?_
              refine lv_iload_n hx hb dX5_join_46 rfl (lv_at hl 3 rfl) ?_
              refine lv_icmp_le (tgt := 120) hx hb dX5_join_47 (by decide) (fun q10 => ?_) (fun q10 => ?_)
              · replace h := ifp h q10
                refine lv_aload_n hx hb dX5_join_120 rfl (lv_at hl 1 rfl) ?_
                refine va_get (D := D) (ci := 7) (v := .ref a_t_numbers) (C := RX5) (T := TX5) (N := 7) hx hb hts mc_X5_join_X5 hown hK hP 0 rfl rfl 0 (by decide) (hts _ mf_X5_join_9) (fun _ h9 => h9) rfl dX5_join_121 ?_
                refine lv_iload hx hb dX5_join_124 (lv_at hl 0 rfl) ?_
                refine lv_iload_n hx hb dX5_join_126 rfl (lv_at hl 2 rfl) ?_
                obtain ⟨g11, h⟩ := gd_e h
                refine va_iast hx hb hK hP hD hS 1 0 rfl rfl (vin_in g11) dX5_join_127 (fun H locs hP hD hS => ?_)
                have hP : va_P D vwCl [(a_t, .inr (7, [.ref a_t_numbers, .ref a_t_places, .ref a_t_halves, .ref a_t_bends, .int c_t_size, .int c_t_start, .int c_t_end])), (a_t_numbers, .inl (cI, 8, .inl (upd s1.2.1 (s1.1).toNatClampNeg p1))), (a_t_places, .inl (cI, 8, .inl s1.2.2.1)), (a_t_halves, .inl (cI, 8, .inl s1.2.2.2.1)), (a_t_bends, .inl (cD, 8, .inr (.inr (.inr (.inl s1.2.2.2.2)))))] H := hP
                have hD : va_D A [(a_t, .inr (7, [.ref a_t_numbers, .ref a_t_places, .ref a_t_halves, .ref a_t_bends, .int c_t_size, .int c_t_start, .int c_t_end])), (a_t_numbers, .inl (cI, 8, .inl (upd s1.2.1 (s1.1).toNatClampNeg p1))), (a_t_places, .inl (cI, 8, .inl s1.2.2.1)), (a_t_halves, .inl (cI, 8, .inl s1.2.2.2.1)), (a_t_bends, .inl (cD, 8, .inr (.inr (.inr (.inl s1.2.2.2.2)))))] := hD
                refine lv_aload_n hx hb dX5_join_128 rfl (lv_at hl 1 rfl) ?_
                refine va_get (D := D) (ci := 7) (v := .ref a_t_places) (C := RX5) (T := TX5) (N := 7) hx hb hts mc_X5_join_X5 hown hK hP 0 rfl rfl 1 (by decide) (hts _ mf_X5_join_15) (fun _ h9 => h9) rfl dX5_join_129 ?_
                refine lv_iload hx hb dX5_join_132 (lv_at hl 0 rfl) ?_
                refine lv_iload_n hx hb dX5_join_134 rfl (lv_at hl 3 rfl) ?_
                obtain ⟨g12, h⟩ := gd_e h
                refine va_iast hx hb hK hP hD hS 2 0 rfl rfl (vin_in g12) dX5_join_135 (fun H locs hP hD hS => ?_)
                have hP : va_P D vwCl [(a_t, .inr (7, [.ref a_t_numbers, .ref a_t_places, .ref a_t_halves, .ref a_t_bends, .int c_t_size, .int c_t_start, .int c_t_end])), (a_t_numbers, .inl (cI, 8, .inl (upd s1.2.1 (s1.1).toNatClampNeg p1))), (a_t_places, .inl (cI, 8, .inl (upd s1.2.2.1 (s1.1).toNatClampNeg p2))), (a_t_halves, .inl (cI, 8, .inl s1.2.2.2.1)), (a_t_bends, .inl (cD, 8, .inr (.inr (.inr (.inl s1.2.2.2.2)))))] H := hP
                have hD : va_D A [(a_t, .inr (7, [.ref a_t_numbers, .ref a_t_places, .ref a_t_halves, .ref a_t_bends, .int c_t_size, .int c_t_start, .int c_t_end])), (a_t_numbers, .inl (cI, 8, .inl (upd s1.2.1 (s1.1).toNatClampNeg p1))), (a_t_places, .inl (cI, 8, .inl (upd s1.2.2.1 (s1.1).toNatClampNeg p2))), (a_t_halves, .inl (cI, 8, .inl s1.2.2.2.1)), (a_t_bends, .inl (cD, 8, .inr (.inr (.inr (.inl s1.2.2.2.2)))))] := hD
                refine lv_aload_n hx hb dX5_join_136 rfl (lv_at hl 1 rfl) ?_
                refine va_get (D := D) (ci := 7) (v := .ref a_t_halves) (C := RX5) (T := TX5) (N := 7) hx hb hts mc_X5_join_X5 hown hK hP 0 rfl rfl 2 (by decide) (hts _ mf_X5_join_18) (fun _ h9 => h9) rfl dX5_join_137 ?_
                refine lv_iload hx hb dX5_join_140 (lv_at hl 0 rfl) ?_
                refine lv_iload_n hx hb dX5_join_142 rfl (lv_at hl 4 rfl) ?_
                obtain ⟨g13, h⟩ := gd_e h
                refine va_iast hx hb hK hP hD hS 3 0 rfl rfl (vin_in g13) dX5_join_143 (fun H locs hP hD hS => ?_)
                have hP : va_P D vwCl [(a_t, .inr (7, [.ref a_t_numbers, .ref a_t_places, .ref a_t_halves, .ref a_t_bends, .int c_t_size, .int c_t_start, .int c_t_end])), (a_t_numbers, .inl (cI, 8, .inl (upd s1.2.1 (s1.1).toNatClampNeg p1))), (a_t_places, .inl (cI, 8, .inl (upd s1.2.2.1 (s1.1).toNatClampNeg p2))), (a_t_halves, .inl (cI, 8, .inl (upd s1.2.2.2.1 (s1.1).toNatClampNeg p3))), (a_t_bends, .inl (cD, 8, .inr (.inr (.inr (.inl s1.2.2.2.2)))))] H := hP
                have hD : va_D A [(a_t, .inr (7, [.ref a_t_numbers, .ref a_t_places, .ref a_t_halves, .ref a_t_bends, .int c_t_size, .int c_t_start, .int c_t_end])), (a_t_numbers, .inl (cI, 8, .inl (upd s1.2.1 (s1.1).toNatClampNeg p1))), (a_t_places, .inl (cI, 8, .inl (upd s1.2.2.1 (s1.1).toNatClampNeg p2))), (a_t_halves, .inl (cI, 8, .inl (upd s1.2.2.2.1 (s1.1).toNatClampNeg p3))), (a_t_bends, .inl (cD, 8, .inr (.inr (.inr (.inl s1.2.2.2.2)))))] := hD
                refine lv_aload_n hx hb dX5_join_144 rfl (lv_at hl 1 rfl) ?_
                refine va_get (D := D) (ci := 7) (v := .ref a_t_bends) (C := RX5) (T := TX5) (N := 7) hx hb hts mc_X5_join_X5 hown hK hP 0 rfl rfl 3 (by decide) (hts _ mf_X5_join_21) (fun _ h9 => h9) rfl dX5_join_145 ?_
                refine lv_iload hx hb dX5_join_148 (lv_at hl 0 rfl) ?_
                refine lv_dload hx hb dX5_join_150 (lv_at hl 5 rfl) ?_
                obtain ⟨g14, h⟩ := gd_e h
                refine va_dast hx hb hK hP hD hS 4 1 rfl rfl (vin_in g14) dX5_join_152 (fun H locs hP hD hS => ?_)
                have hP : va_P D vwCl [(a_t, .inr (7, [.ref a_t_numbers, .ref a_t_places, .ref a_t_halves, .ref a_t_bends, .int c_t_size, .int c_t_start, .int c_t_end])), (a_t_numbers, .inl (cI, 8, .inl (upd s1.2.1 (s1.1).toNatClampNeg p1))), (a_t_places, .inl (cI, 8, .inl (upd s1.2.2.1 (s1.1).toNatClampNeg p2))), (a_t_halves, .inl (cI, 8, .inl (upd s1.2.2.2.1 (s1.1).toNatClampNeg p3))), (a_t_bends, .inl (cD, 8, .inr (.inr (.inr (.inl (vf_upd s1.2.2.2.2 (s1.1).toNatClampNeg p4))))))] H := hP
                have hD : va_D A [(a_t, .inr (7, [.ref a_t_numbers, .ref a_t_places, .ref a_t_halves, .ref a_t_bends, .int c_t_size, .int c_t_start, .int c_t_end])), (a_t_numbers, .inl (cI, 8, .inl (upd s1.2.1 (s1.1).toNatClampNeg p1))), (a_t_places, .inl (cI, 8, .inl (upd s1.2.2.1 (s1.1).toNatClampNeg p2))), (a_t_halves, .inl (cI, 8, .inl (upd s1.2.2.2.1 (s1.1).toNatClampNeg p3))), (a_t_bends, .inl (cD, 8, .inr (.inr (.inr (.inl (vf_upd s1.2.2.2.2 (s1.1).toNatClampNeg p4))))))] := hD
                refine lv_aload_n hx hb dX5_join_153 rfl (lv_at hl 1 rfl) ?_
                refine lv_dup hx hb dX5_join_154 rfl ?_
                refine va_get (D := D) (ci := 7) (v := .int c_t_size) (C := RX5) (T := TX5) (N := 7) hx hb hts mc_X5_join_X5 hown hK hP 0 rfl rfl 4 (by decide) (hts _ mf_X5_join_25) (fun _ h9 => h9) rfl dX5_join_155 ?_
                refine lv_iconst (v := (1 : Int32)) hx hb dX5_join_158 (by decide) ?_
                refine lv_iadd hx hb dX5_join_159 ?_
                refine va_put (D := D) (ci := 7) (v := .int (c_t_size + (1 : Int32))) (ty := .int) (C := RX5) (T := TX5) (N := 7) hx hb hts mc_X5_join_X5 tyX5 tyX5_ok nmX5 hown hK hP hD hS 0 rfl rfl 4 (by decide) (hts _ mf_X5_join_25) (fun _ h9 => h9) rfl (tyX5_ok 4 (by decide)) rfl rfl (Nat.le_of_ble_eq_true rfl) dX5_join_160 (fun H locs hP hD hS => ?_)
                have hP : va_P D vwCl [(a_t, .inr (7, [.ref a_t_numbers, .ref a_t_places, .ref a_t_halves, .ref a_t_bends, .int (c_t_size + (1 : Int32)), .int c_t_start, .int c_t_end])), (a_t_numbers, .inl (cI, 8, .inl (upd s1.2.1 (s1.1).toNatClampNeg p1))), (a_t_places, .inl (cI, 8, .inl (upd s1.2.2.1 (s1.1).toNatClampNeg p2))), (a_t_halves, .inl (cI, 8, .inl (upd s1.2.2.2.1 (s1.1).toNatClampNeg p3))), (a_t_bends, .inl (cD, 8, .inr (.inr (.inr (.inl (vf_upd s1.2.2.2.2 (s1.1).toNatClampNeg p4))))))] H := hP
                have hD : va_D A [(a_t, .inr (7, [.ref a_t_numbers, .ref a_t_places, .ref a_t_halves, .ref a_t_bends, .int (c_t_size + (1 : Int32)), .int c_t_start, .int c_t_end])), (a_t_numbers, .inl (cI, 8, .inl (upd s1.2.1 (s1.1).toNatClampNeg p1))), (a_t_places, .inl (cI, 8, .inl (upd s1.2.2.1 (s1.1).toNatClampNeg p2))), (a_t_halves, .inl (cI, 8, .inl (upd s1.2.2.2.1 (s1.1).toNatClampNeg p3))), (a_t_bends, .inl (cD, 8, .inr (.inr (.inr (.inl (vf_upd s1.2.2.2.2 (s1.1).toNatClampNeg p4))))))] := hD
                rw [← some_e h] at hfin
                exact hfin 163 _ _ _ dX5_join_163 hP hD hS
              · replace h := ifn h q10
                refine lv_aload_n hx hb dX5_join_50 rfl (lv_at hl 1 rfl) ?_
                refine va_get (D := D) (ci := 7) (v := .ref a_t_numbers) (C := RX5) (T := TX5) (N := 7) hx hb hts mc_X5_join_X5 hown hK hP 0 rfl rfl 0 (by decide) (hts _ mf_X5_join_9) (fun _ h9 => h9) rfl dX5_join_51 ?_
                refine lv_iload hx hb dX5_join_54 (lv_at hl 0 rfl) ?_
                refine lv_aload_n hx hb dX5_join_56 rfl (lv_at hl 1 rfl) ?_
                refine va_get (D := D) (ci := 7) (v := .ref a_t_numbers) (C := RX5) (T := TX5) (N := 7) hx hb hts mc_X5_join_X5 hown hK hP 0 rfl rfl 0 (by decide) (hts _ mf_X5_join_9) (fun _ h9 => h9) rfl dX5_join_57 ?_
                refine lv_iload hx hb dX5_join_60 (lv_at hl 0 rfl) ?_
                refine lv_iconst (v := (1 : Int32)) hx hb dX5_join_62 (by decide) ?_
                refine lv_isub hx hb dX5_join_63 ?_
                obtain ⟨g15, h⟩ := gd_e h
                refine va_iald hx hb hK hP 1 0 rfl rfl (vin_in g15) dX5_join_64 ?_
                obtain ⟨g16, h⟩ := gd_e h
                refine va_iast hx hb hK hP hD hS 1 0 rfl rfl (vin_in g16) dX5_join_65 (fun H locs hP hD hS => ?_)
                have hP : va_P D vwCl [(a_t, .inr (7, [.ref a_t_numbers, .ref a_t_places, .ref a_t_halves, .ref a_t_bends, .int c_t_size, .int c_t_start, .int c_t_end])), (a_t_numbers, .inl (cI, 8, .inl (upd s1.2.1 (s1.1).toNatClampNeg (s1.2.1 ((s1.1 - (1 : Int32))).toNatClampNeg)))), (a_t_places, .inl (cI, 8, .inl s1.2.2.1)), (a_t_halves, .inl (cI, 8, .inl s1.2.2.2.1)), (a_t_bends, .inl (cD, 8, .inr (.inr (.inr (.inl s1.2.2.2.2)))))] H := hP
                have hD : va_D A [(a_t, .inr (7, [.ref a_t_numbers, .ref a_t_places, .ref a_t_halves, .ref a_t_bends, .int c_t_size, .int c_t_start, .int c_t_end])), (a_t_numbers, .inl (cI, 8, .inl (upd s1.2.1 (s1.1).toNatClampNeg (s1.2.1 ((s1.1 - (1 : Int32))).toNatClampNeg)))), (a_t_places, .inl (cI, 8, .inl s1.2.2.1)), (a_t_halves, .inl (cI, 8, .inl s1.2.2.2.1)), (a_t_bends, .inl (cD, 8, .inr (.inr (.inr (.inl s1.2.2.2.2)))))] := hD
                refine lv_aload_n hx hb dX5_join_66 rfl (lv_at hl 1 rfl) ?_
                refine va_get (D := D) (ci := 7) (v := .ref a_t_places) (C := RX5) (T := TX5) (N := 7) hx hb hts mc_X5_join_X5 hown hK hP 0 rfl rfl 1 (by decide) (hts _ mf_X5_join_15) (fun _ h9 => h9) rfl dX5_join_67 ?_
                refine lv_iload hx hb dX5_join_70 (lv_at hl 0 rfl) ?_
                refine lv_aload_n hx hb dX5_join_72 rfl (lv_at hl 1 rfl) ?_
                refine va_get (D := D) (ci := 7) (v := .ref a_t_places) (C := RX5) (T := TX5) (N := 7) hx hb hts mc_X5_join_X5 hown hK hP 0 rfl rfl 1 (by decide) (hts _ mf_X5_join_15) (fun _ h9 => h9) rfl dX5_join_73 ?_
                refine lv_iload hx hb dX5_join_76 (lv_at hl 0 rfl) ?_
                refine lv_iconst (v := (1 : Int32)) hx hb dX5_join_78 (by decide) ?_
                refine lv_isub hx hb dX5_join_79 ?_
                obtain ⟨g17, h⟩ := gd_e h
                refine va_iald hx hb hK hP 2 0 rfl rfl (vin_in g17) dX5_join_80 ?_
                obtain ⟨g18, h⟩ := gd_e h
                refine va_iast hx hb hK hP hD hS 2 0 rfl rfl (vin_in g18) dX5_join_81 (fun H locs hP hD hS => ?_)
                have hP : va_P D vwCl [(a_t, .inr (7, [.ref a_t_numbers, .ref a_t_places, .ref a_t_halves, .ref a_t_bends, .int c_t_size, .int c_t_start, .int c_t_end])), (a_t_numbers, .inl (cI, 8, .inl (upd s1.2.1 (s1.1).toNatClampNeg (s1.2.1 ((s1.1 - (1 : Int32))).toNatClampNeg)))), (a_t_places, .inl (cI, 8, .inl (upd s1.2.2.1 (s1.1).toNatClampNeg (s1.2.2.1 ((s1.1 - (1 : Int32))).toNatClampNeg)))), (a_t_halves, .inl (cI, 8, .inl s1.2.2.2.1)), (a_t_bends, .inl (cD, 8, .inr (.inr (.inr (.inl s1.2.2.2.2)))))] H := hP
                have hD : va_D A [(a_t, .inr (7, [.ref a_t_numbers, .ref a_t_places, .ref a_t_halves, .ref a_t_bends, .int c_t_size, .int c_t_start, .int c_t_end])), (a_t_numbers, .inl (cI, 8, .inl (upd s1.2.1 (s1.1).toNatClampNeg (s1.2.1 ((s1.1 - (1 : Int32))).toNatClampNeg)))), (a_t_places, .inl (cI, 8, .inl (upd s1.2.2.1 (s1.1).toNatClampNeg (s1.2.2.1 ((s1.1 - (1 : Int32))).toNatClampNeg)))), (a_t_halves, .inl (cI, 8, .inl s1.2.2.2.1)), (a_t_bends, .inl (cD, 8, .inr (.inr (.inr (.inl s1.2.2.2.2)))))] := hD
                refine lv_aload_n hx hb dX5_join_82 rfl (lv_at hl 1 rfl) ?_
                refine va_get (D := D) (ci := 7) (v := .ref a_t_halves) (C := RX5) (T := TX5) (N := 7) hx hb hts mc_X5_join_X5 hown hK hP 0 rfl rfl 2 (by decide) (hts _ mf_X5_join_18) (fun _ h9 => h9) rfl dX5_join_83 ?_
                refine lv_iload hx hb dX5_join_86 (lv_at hl 0 rfl) ?_
                refine lv_aload_n hx hb dX5_join_88 rfl (lv_at hl 1 rfl) ?_
                refine va_get (D := D) (ci := 7) (v := .ref a_t_halves) (C := RX5) (T := TX5) (N := 7) hx hb hts mc_X5_join_X5 hown hK hP 0 rfl rfl 2 (by decide) (hts _ mf_X5_join_18) (fun _ h9 => h9) rfl dX5_join_89 ?_
                refine lv_iload hx hb dX5_join_92 (lv_at hl 0 rfl) ?_
                refine lv_iconst (v := (1 : Int32)) hx hb dX5_join_94 (by decide) ?_
                refine lv_isub hx hb dX5_join_95 ?_
                obtain ⟨g19, h⟩ := gd_e h
                refine va_iald hx hb hK hP 3 0 rfl rfl (vin_in g19) dX5_join_96 ?_
                obtain ⟨g20, h⟩ := gd_e h
                refine va_iast hx hb hK hP hD hS 3 0 rfl rfl (vin_in g20) dX5_join_97 (fun H locs hP hD hS => ?_)
                have hP : va_P D vwCl [(a_t, .inr (7, [.ref a_t_numbers, .ref a_t_places, .ref a_t_halves, .ref a_t_bends, .int c_t_size, .int c_t_start, .int c_t_end])), (a_t_numbers, .inl (cI, 8, .inl (upd s1.2.1 (s1.1).toNatClampNeg (s1.2.1 ((s1.1 - (1 : Int32))).toNatClampNeg)))), (a_t_places, .inl (cI, 8, .inl (upd s1.2.2.1 (s1.1).toNatClampNeg (s1.2.2.1 ((s1.1 - (1 : Int32))).toNatClampNeg)))), (a_t_halves, .inl (cI, 8, .inl (upd s1.2.2.2.1 (s1.1).toNatClampNeg (s1.2.2.2.1 ((s1.1 - (1 : Int32))).toNatClampNeg)))), (a_t_bends, .inl (cD, 8, .inr (.inr (.inr (.inl s1.2.2.2.2)))))] H := hP
                have hD : va_D A [(a_t, .inr (7, [.ref a_t_numbers, .ref a_t_places, .ref a_t_halves, .ref a_t_bends, .int c_t_size, .int c_t_start, .int c_t_end])), (a_t_numbers, .inl (cI, 8, .inl (upd s1.2.1 (s1.1).toNatClampNeg (s1.2.1 ((s1.1 - (1 : Int32))).toNatClampNeg)))), (a_t_places, .inl (cI, 8, .inl (upd s1.2.2.1 (s1.1).toNatClampNeg (s1.2.2.1 ((s1.1 - (1 : Int32))).toNatClampNeg)))), (a_t_halves, .inl (cI, 8, .inl (upd s1.2.2.2.1 (s1.1).toNatClampNeg (s1.2.2.2.1 ((s1.1 - (1 : Int32))).toNatClampNeg)))), (a_t_bends, .inl (cD, 8, .inr (.inr (.inr (.inl s1.2.2.2.2)))))] := hD
                refine lv_aload_n hx hb dX5_join_98 rfl (lv_at hl 1 rfl) ?_
                refine va_get (D := D) (ci := 7) (v := .ref a_t_bends) (C := RX5) (T := TX5) (N := 7) hx hb hts mc_X5_join_X5 hown hK hP 0 rfl rfl 3 (by decide) (hts _ mf_X5_join_21) (fun _ h9 => h9) rfl dX5_join_99 ?_
                refine lv_iload hx hb dX5_join_102 (lv_at hl 0 rfl) ?_
                refine lv_aload_n hx hb dX5_join_104 rfl (lv_at hl 1 rfl) ?_
                refine va_get (D := D) (ci := 7) (v := .ref a_t_bends) (C := RX5) (T := TX5) (N := 7) hx hb hts mc_X5_join_X5 hown hK hP 0 rfl rfl 3 (by decide) (hts _ mf_X5_join_21) (fun _ h9 => h9) rfl dX5_join_105 ?_
                refine lv_iload hx hb dX5_join_108 (lv_at hl 0 rfl) ?_
                refine lv_iconst (v := (1 : Int32)) hx hb dX5_join_110 (by decide) ?_
                refine lv_isub hx hb dX5_join_111 ?_
                obtain ⟨g21, h⟩ := gd_e h
                refine va_dald hx hb hK hP 4 1 rfl rfl (vin_in g21) dX5_join_112 ?_
                obtain ⟨g22, h⟩ := gd_e h
                refine va_dast hx hb hK hP hD hS 4 1 rfl rfl (vin_in g22) dX5_join_113 (fun H locs hP hD hS => ?_)
                have hP : va_P D vwCl [(a_t, .inr (7, [.ref a_t_numbers, .ref a_t_places, .ref a_t_halves, .ref a_t_bends, .int c_t_size, .int c_t_start, .int c_t_end])), (a_t_numbers, .inl (cI, 8, .inl (upd s1.2.1 (s1.1).toNatClampNeg (s1.2.1 ((s1.1 - (1 : Int32))).toNatClampNeg)))), (a_t_places, .inl (cI, 8, .inl (upd s1.2.2.1 (s1.1).toNatClampNeg (s1.2.2.1 ((s1.1 - (1 : Int32))).toNatClampNeg)))), (a_t_halves, .inl (cI, 8, .inl (upd s1.2.2.2.1 (s1.1).toNatClampNeg (s1.2.2.2.1 ((s1.1 - (1 : Int32))).toNatClampNeg)))), (a_t_bends, .inl (cD, 8, .inr (.inr (.inr (.inl (vf_upd s1.2.2.2.2 (s1.1).toNatClampNeg (s1.2.2.2.2 ((s1.1 - (1 : Int32))).toNatClampNeg)))))))] H := hP
                have hD : va_D A [(a_t, .inr (7, [.ref a_t_numbers, .ref a_t_places, .ref a_t_halves, .ref a_t_bends, .int c_t_size, .int c_t_start, .int c_t_end])), (a_t_numbers, .inl (cI, 8, .inl (upd s1.2.1 (s1.1).toNatClampNeg (s1.2.1 ((s1.1 - (1 : Int32))).toNatClampNeg)))), (a_t_places, .inl (cI, 8, .inl (upd s1.2.2.1 (s1.1).toNatClampNeg (s1.2.2.1 ((s1.1 - (1 : Int32))).toNatClampNeg)))), (a_t_halves, .inl (cI, 8, .inl (upd s1.2.2.2.1 (s1.1).toNatClampNeg (s1.2.2.2.1 ((s1.1 - (1 : Int32))).toNatClampNeg)))), (a_t_bends, .inl (cD, 8, .inr (.inr (.inr (.inl (vf_upd s1.2.2.2.2 (s1.1).toNatClampNeg (s1.2.2.2.2 ((s1.1 - (1 : Int32))).toNatClampNeg)))))))] := hD
                refine lv_iinc (v := (s1.1 + (-1 : Int32))) (lv' := [(6, .int (s1.1 + (-1 : Int32))), (0, .ref a_t), (1, .int p1), (2, .int p2), (3, .int p3), (4, .double p4)]) hx hb dX5_join_114 hl (k := 0) rfl rfl (by decide) rfl (fun ls hl => ?_)
                refine lv_goto (tgt := 32) hx hb dX5_join_117 (by decide) ?_
                exact ih1 ((s1.1 + (-1 : Int32)), (upd s1.2.1 (s1.1).toNatClampNeg (s1.2.1 ((s1.1 - (1 : Int32))).toNatClampNeg)), (upd s1.2.2.1 (s1.1).toNatClampNeg (s1.2.2.1 ((s1.1 - (1 : Int32))).toNatClampNeg)), (upd s1.2.2.2.1 (s1.1).toNatClampNeg (s1.2.2.2.1 ((s1.1 - (1 : Int32))).toNatClampNeg)), (vf_upd s1.2.2.2.2 (s1.1).toNatClampNeg (s1.2.2.2.2 ((s1.1 - (1 : Int32))).toNatClampNeg))) _ _ _ hP hD hS (lv_sub hl [0, 1, 2, 3, 4, 5] rfl) h
        exact LOOP1 1000 (c_t_size, c_t_numbers, c_t_places, c_t_halves, c_t_bends) _ _ _ hP hD hS hl h
      · replace h := ifn h q3
        rw [← some_e h] at hfin
        exact hfin 25 _ _ _ dX5_join_25 hP hD hS
theorem mc_X5_lastPlace_X5 : ∀ w ∈ wsX50, w ∈ wsX5_lastPlace := by decide +kernel
theorem mf_X5_lastPlace_15 : Cond.fieldLink RX5 15 "Lensbench$Train" "places" "[I" ∈ wsX5_lastPlace := by decide +kernel
theorem mf_X5_lastPlace_25 : Cond.fieldLink RX5 25 "Lensbench$Train" "size" "I" ∈ wsX5_lastPlace := by decide +kernel
theorem mf_X5_lastPlace_29 : Cond.fieldLink RX5 29 "Lensbench$Train" "start" "I" ∈ wsX5_lastPlace := by decide +kernel
abbrev rm_X5_lastPlace : Room := { frames := 0, cells := 0, slots := 0, locals := 0 }
set_option maxHeartbeats 4000000 in
set_option maxRecDepth 100000 in
theorem m_X5_lastPlace (l : Launch) (D : va_G) (cI cD cB : ClassId) (a_t : Nat) (a_t_numbers : Nat) (a_t_places : Nat) (a_t_halves : Nat) (a_t_bends : Nat) (c_t_size : Int32) (c_t_start : Int32) (c_t_end : Int32) (c_t_places : Nat → Int32) (R : Int32) (h : f_X5_lastPlace c_t_size c_t_start c_t_places = some R) : Ci l yX5_lastPlace wsX5_lastPlace rm_X5_lastPlace D (TT cI cD cB) [.ref a_t] [(a_t, .inr (7, [.ref a_t_numbers, .ref a_t_places, .ref a_t_halves, .ref a_t_bends, .int c_t_size, .int c_t_start, .int c_t_end])), (a_t_places, .inl (cI, 8, .inl c_t_places))] [(a_t, .inr (7, [.ref a_t_numbers, .ref a_t_places, .ref a_t_halves, .ref a_t_bends, .int c_t_size, .int c_t_start, .int c_t_end])), (a_t_places, .inl (cI, 8, .inl c_t_places))] R 0 0 := by
  unfold f_X5_lastPlace at h
  refine st_i (cc := cX5_lastPlace) (maxL := 1) (by decide) rfl (Nat.le_of_ble_eq_true rfl) (fun p e s m av below meth c A Q ls hx hb hml hts hown hA hK hNM hZ hP hD hS hl hfin => ?_)
  have hown : s.vm.findClass RX5 = some m.cls := hown
  have hl : lv_has ls 1 [(0, .ref a_t)] := hl
  refine lv_aload_n hx hb dX5_lastPlace_0 rfl (lv_at hl 0 rfl) ?_
  refine va_get (D := D) (ci := 7) (v := .int c_t_size) (C := RX5) (T := TX5) (N := 7) hx hb hts mc_X5_lastPlace_X5 hown hK hP 0 rfl rfl 4 (by decide) (hts _ mf_X5_lastPlace_25) (fun _ h9 => h9) rfl dX5_lastPlace_1 ?_
  refine lv_if_le (tgt := 21) hx hb dX5_lastPlace_4 (by decide) (fun q1 => ?_) (fun q1 => ?_)
  · replace h := ifp h q1
    refine lv_aload_n hx hb dX5_lastPlace_21 rfl (lv_at hl 0 rfl) ?_
    refine va_get (D := D) (ci := 7) (v := .int c_t_start) (C := RX5) (T := TX5) (N := 7) hx hb hts mc_X5_lastPlace_X5 hown hK hP 0 rfl rfl 5 (by decide) (hts _ mf_X5_lastPlace_29) (fun _ h9 => h9) rfl dX5_lastPlace_22 ?_
    rw [← some_e h] at hfin
    exact hfin 25 _ _ _ dX5_lastPlace_25 rfl hP hD hS
  · replace h := ifn h q1
    refine lv_aload_n hx hb dX5_lastPlace_7 rfl (lv_at hl 0 rfl) ?_
    refine va_get (D := D) (ci := 7) (v := .ref a_t_places) (C := RX5) (T := TX5) (N := 7) hx hb hts mc_X5_lastPlace_X5 hown hK hP 0 rfl rfl 1 (by decide) (hts _ mf_X5_lastPlace_15) (fun _ h9 => h9) rfl dX5_lastPlace_8 ?_
    refine lv_aload_n hx hb dX5_lastPlace_11 rfl (lv_at hl 0 rfl) ?_
    refine va_get (D := D) (ci := 7) (v := .int c_t_size) (C := RX5) (T := TX5) (N := 7) hx hb hts mc_X5_lastPlace_X5 hown hK hP 0 rfl rfl 4 (by decide) (hts _ mf_X5_lastPlace_25) (fun _ h9 => h9) rfl dX5_lastPlace_12 ?_
    refine lv_iconst (v := (1 : Int32)) hx hb dX5_lastPlace_15 (by decide) ?_
    refine lv_isub hx hb dX5_lastPlace_16 ?_
    obtain ⟨g2, h⟩ := gd_e h
    refine va_iald hx hb hK hP 1 0 rfl rfl (vin_in g2) dX5_lastPlace_17 ?_
    refine lv_goto (tgt := 25) hx hb dX5_lastPlace_18 (by decide) ?_
    rw [← some_e h] at hfin
    exact hfin 25 _ _ _ dX5_lastPlace_25 rfl hP hD hS
theorem mc_X5_numberAt_X5 : ∀ w ∈ wsX50, w ∈ wsX5_numberAt := by decide +kernel
theorem mf_X5_numberAt_25 : Cond.fieldLink RX5 25 "Lensbench$Train" "size" "I" ∈ wsX5_numberAt := by decide +kernel
theorem mf_X5_numberAt_9 : Cond.fieldLink RX5 9 "Lensbench$Train" "numbers" "[I" ∈ wsX5_numberAt := by decide +kernel
abbrev rm_X5_numberAt : Room := { frames := 0, cells := 0, slots := 0, locals := 0 }
set_option maxHeartbeats 4000000 in
set_option maxRecDepth 100000 in
theorem m_X5_numberAt (l : Launch) (D : va_G) (cI cD cB : ClassId) (a_t : Nat) (a_t_numbers : Nat) (a_t_places : Nat) (a_t_halves : Nat) (a_t_bends : Nat) (p1 : Int32) (c_t_size : Int32) (c_t_start : Int32) (c_t_end : Int32) (c_t_numbers : Nat → Int32) (R : Int32) (h : f_X5_numberAt p1 c_t_size c_t_numbers = some R) : Ci l yX5_numberAt wsX5_numberAt rm_X5_numberAt D (TT cI cD cB) [.ref a_t, .int p1] [(a_t, .inr (7, [.ref a_t_numbers, .ref a_t_places, .ref a_t_halves, .ref a_t_bends, .int c_t_size, .int c_t_start, .int c_t_end])), (a_t_numbers, .inl (cI, 8, .inl c_t_numbers))] [(a_t, .inr (7, [.ref a_t_numbers, .ref a_t_places, .ref a_t_halves, .ref a_t_bends, .int c_t_size, .int c_t_start, .int c_t_end])), (a_t_numbers, .inl (cI, 8, .inl c_t_numbers))] R 0 0 := by
  unfold f_X5_numberAt at h
  refine st_i (cc := cX5_numberAt) (maxL := 2) (by decide) rfl (Nat.le_of_ble_eq_true rfl) (fun p e s m av below meth c A Q ls hx hb hml hts hown hA hK hNM hZ hP hD hS hl hfin => ?_)
  have hown : s.vm.findClass RX5 = some m.cls := hown
  have hl : lv_has ls 2 [(0, .ref a_t), (1, .int p1)] := hl
  refine lv_iload_n hx hb dX5_numberAt_0 rfl (lv_at hl 1 rfl) ?_
  refine lv_if_lt (tgt := 21) hx hb dX5_numberAt_1 (by decide) (fun q1 => ?_) (fun q1 => ?_)
  · replace h := ifp h q1
    refine lv_iconst (v := (-1 : Int32)) hx hb dX5_numberAt_21 (by decide) ?_
    rw [← some_e h] at hfin
    exact hfin 22 _ _ _ dX5_numberAt_22 rfl hP hD hS
  · replace h := ifn h q1
    refine lv_iload_n hx hb dX5_numberAt_4 rfl (lv_at hl 1 rfl) ?_
    refine lv_aload_n hx hb dX5_numberAt_5 rfl (lv_at hl 0 rfl) ?_
    refine va_get (D := D) (ci := 7) (v := .int c_t_size) (C := RX5) (T := TX5) (N := 7) hx hb hts mc_X5_numberAt_X5 hown hK hP 0 rfl rfl 4 (by decide) (hts _ mf_X5_numberAt_25) (fun _ h9 => h9) rfl dX5_numberAt_6 ?_
    refine lv_icmp_ge (tgt := 21) hx hb dX5_numberAt_9 (by decide) (fun q2 => ?_) (fun q2 => ?_)
    · replace h := ifp h q2
      refine lv_iconst (v := (-1 : Int32)) hx hb dX5_numberAt_21 (by decide) ?_
      rw [← some_e h] at hfin
      exact hfin 22 _ _ _ dX5_numberAt_22 rfl hP hD hS
    · replace h := ifn h q2
      refine lv_aload_n hx hb dX5_numberAt_12 rfl (lv_at hl 0 rfl) ?_
      refine va_get (D := D) (ci := 7) (v := .ref a_t_numbers) (C := RX5) (T := TX5) (N := 7) hx hb hts mc_X5_numberAt_X5 hown hK hP 0 rfl rfl 0 (by decide) (hts _ mf_X5_numberAt_9) (fun _ h9 => h9) rfl dX5_numberAt_13 ?_
      refine lv_iload_n hx hb dX5_numberAt_16 rfl (lv_at hl 1 rfl) ?_
      obtain ⟨g3, h⟩ := gd_e h
      refine va_iald hx hb hK hP 1 0 rfl rfl (vin_in g3) dX5_numberAt_17 ?_
      refine lv_goto (tgt := 22) hx hb dX5_numberAt_18 (by decide) ?_
      rw [← some_e h] at hfin
      exact hfin 22 _ _ _ dX5_numberAt_22 rfl hP hD hS
theorem mc_X5_positionOf_X5 : ∀ w ∈ wsX50, w ∈ wsX5_positionOf := by decide +kernel
theorem mf_X5_positionOf_25 : Cond.fieldLink RX5 25 "Lensbench$Train" "size" "I" ∈ wsX5_positionOf := by decide +kernel
theorem mf_X5_positionOf_9 : Cond.fieldLink RX5 9 "Lensbench$Train" "numbers" "[I" ∈ wsX5_positionOf := by decide +kernel
abbrev rm_X5_positionOf : Room := { frames := 0, cells := 0, slots := 0, locals := 0 }
set_option maxHeartbeats 4000000 in
set_option maxRecDepth 100000 in
theorem m_X5_positionOf (l : Launch) (D : va_G) (cI cD cB : ClassId) (a_t : Nat) (a_t_numbers : Nat) (a_t_places : Nat) (a_t_halves : Nat) (a_t_bends : Nat) (p1 : Int32) (c_t_size : Int32) (c_t_start : Int32) (c_t_end : Int32) (c_t_numbers : Nat → Int32) (R : Int32) (h : f_X5_positionOf p1 c_t_size c_t_numbers = some R) : Ci l yX5_positionOf wsX5_positionOf rm_X5_positionOf D (TT cI cD cB) [.ref a_t, .int p1] [(a_t, .inr (7, [.ref a_t_numbers, .ref a_t_places, .ref a_t_halves, .ref a_t_bends, .int c_t_size, .int c_t_start, .int c_t_end])), (a_t_numbers, .inl (cI, 8, .inl c_t_numbers))] [(a_t, .inr (7, [.ref a_t_numbers, .ref a_t_places, .ref a_t_halves, .ref a_t_bends, .int c_t_size, .int c_t_start, .int c_t_end])), (a_t_numbers, .inl (cI, 8, .inl c_t_numbers))] R 0 0 := by
  unfold f_X5_positionOf at h
  refine st_i (cc := cX5_positionOf) (maxL := 3) (by decide) rfl (Nat.le_of_ble_eq_true rfl) (fun p e s m av below meth c A Q ls hx hb hml hts hown hA hK hNM hZ hP hD hS hl hfin => ?_)
  have hown : s.vm.findClass RX5 = some m.cls := hown
  have hl : lv_has ls 3 [(0, .ref a_t), (1, .int p1)] := hl
  refine lv_iconst (v := (0 : Int32)) hx hb dX5_positionOf_0 (by decide) ?_
  refine lv_istore_n (lv' := [(2, .int (0 : Int32)), (0, .ref a_t), (1, .int p1)]) hx hb dX5_positionOf_1 rfl hl (by decide) rfl (fun ls hl => ?_)
  have LOOP1 : ∀ (n1 : Nat) (s1 : Int32) (H : Heap) (locs : List Loc) (ls : Array Slot), va_P D vwCl [(a_t, .inr (7, [.ref a_t_numbers, .ref a_t_places, .ref a_t_halves, .ref a_t_bends, .int c_t_size, .int c_t_start, .int c_t_end])), (a_t_numbers, .inl (cI, 8, .inl c_t_numbers))] H → va_D A [(a_t, .inr (7, [.ref a_t_numbers, .ref a_t_places, .ref a_t_halves, .ref a_t_bends, .int c_t_size, .int c_t_start, .int c_t_end])), (a_t_numbers, .inl (cI, 8, .inl c_t_numbers))] → va_S A s.heap H locs → lv_has ls 3 [(2, .int s1), (0, .ref a_t), (1, .int p1)] → lp (f_X5_positionOf_b1 p1 c_t_size c_t_numbers) n1 s1 = some R → W p l e rm_X5_positionOf s m av below meth c H locs 0 0 Q (F0 m 2 ls []) := by
    intro n1
    induction n1 with
    | zero => intro s1 H locs ls hP hD hS hl h; exact lp_0 h
    | succ n1 ih1 =>
      intro s1 H locs ls hP hD hS hl h
      replace h := lp_s h
      unfold f_X5_positionOf_b1 at h
      refine lv_iload_n hx hb dX5_positionOf_2 rfl (lv_at hl 0 rfl) ?_
      refine lv_aload_n hx hb dX5_positionOf_3 rfl (lv_at hl 1 rfl) ?_
      refine va_get (D := D) (ci := 7) (v := .int c_t_size) (C := RX5) (T := TX5) (N := 7) hx hb hts mc_X5_positionOf_X5 hown hK hP 0 rfl rfl 4 (by decide) (hts _ mf_X5_positionOf_25) (fun _ h9 => h9) rfl dX5_positionOf_4 ?_
      refine lv_icmp_ge (tgt := 28) hx hb dX5_positionOf_7 (by decide) (fun q1 => ?_) (fun q1 => ?_)
      · replace h := ifp h q1
        refine lv_iconst (v := (-1 : Int32)) hx hb dX5_positionOf_28 (by decide) ?_
        rw [← some_e h] at hfin
        exact hfin 29 _ _ _ dX5_positionOf_29 rfl hP hD hS
      · replace h := ifn h q1
        refine lv_aload_n hx hb dX5_positionOf_10 rfl (lv_at hl 1 rfl) ?_
        refine va_get (D := D) (ci := 7) (v := .ref a_t_numbers) (C := RX5) (T := TX5) (N := 7) hx hb hts mc_X5_positionOf_X5 hown hK hP 0 rfl rfl 0 (by decide) (hts _ mf_X5_positionOf_9) (fun _ h9 => h9) rfl dX5_positionOf_11 ?_
        refine lv_iload_n hx hb dX5_positionOf_14 rfl (lv_at hl 0 rfl) ?_
        obtain ⟨g2, h⟩ := gd_e h
        refine va_iald hx hb hK hP 1 0 rfl rfl (vin_in g2) dX5_positionOf_15 ?_
        refine lv_iload_n hx hb dX5_positionOf_16 rfl (lv_at hl 2 rfl) ?_
        refine lv_icmp_ne (tgt := 22) hx hb dX5_positionOf_17 (by decide) (fun q3 => ?_) (fun q3 => ?_)
        · replace h := ifn h q3
          refine lv_iinc (v := (s1 + (1 : Int32))) (lv' := [(2, .int (s1 + (1 : Int32))), (0, .ref a_t), (1, .int p1)]) hx hb dX5_positionOf_22 hl (k := 0) rfl rfl (by decide) rfl (fun ls hl => ?_)
          refine lv_goto (tgt := 2) hx hb dX5_positionOf_25 (by decide) ?_
          exact ih1 (s1 + (1 : Int32)) _ _ _ hP hD hS (lv_sub hl [0, 1, 2] rfl) h
        · replace h := ifp h q3
          refine lv_iload_n hx hb dX5_positionOf_20 rfl (lv_at hl 0 rfl) ?_
          rw [← some_e h] at hfin
          exact hfin 21 _ _ _ dX5_positionOf_21 rfl hP hD hS
  exact LOOP1 1000 (0 : Int32) _ _ _ hP hD hS hl h
abbrev rm_X6_needColour : Room := { frames := 0, cells := 0, slots := 0, locals := 0 }
set_option maxHeartbeats 4000000 in
set_option maxRecDepth 100000 in
theorem m_X6_needColour (l : Launch) (D : va_G) (cI cD cB : ClassId) (p1 : Int32) (R : Unit) (h : f_X6_needColour p1 = some (.inr R)) : Cv l yX6_needColour wsX6_needColour rm_X6_needColour D (TT cI cD cB) [.int p1] [] [] 0 0 := by
  unfold f_X6_needColour at h
  refine st_v (cc := cX6_needColour) (maxL := 1) (by decide) rfl (Nat.le_of_ble_eq_true rfl) (fun p e s m av below meth c A Q ls hx hb hml hts hown hA hK hNM hZ hP hD hS hl hfin => ?_)
  have hown : s.vm.findClass RX6 = some m.cls := hown
  have hl : lv_has ls 1 [(0, .int p1)] := hl
  refine lv_iload_n hx hb dX6_needColour_0 rfl (lv_at hl 0 rfl) ?_
  refine lv_if_lt (tgt := 9) hx hb dX6_needColour_1 (by decide) (fun q1 => ?_) (fun q1 => ?_)
  · replace h := ifp h q1
    cases h
  · replace h := ifn h q1
    refine lv_iload_n hx hb dX6_needColour_4 rfl (lv_at hl 0 rfl) ?_
    refine lv_iconst (v := (2 : Int32)) hx hb dX6_needColour_5 (by decide) ?_
    refine lv_icmp_le (tgt := 20) hx hb dX6_needColour_6 (by decide) (fun q2 => ?_) (fun q2 => ?_)
    · replace h := ifp h q2
      exact hfin 20 _ _ _ dX6_needColour_20 hP hD hS
    · replace h := ifn h q2
      cases h
theorem mk_X6_bendOf_144 : Cond.constantDouble RX6 144 (4636737291354636288) ∈ wsX6_bendOf := by decide +kernel
theorem mk_X6_bendOf_338 : Cond.constantDouble RX6 338 (4581421828931458171) ∈ wsX6_bendOf := by decide +kernel
theorem mk_X6_bendOf_340 : Cond.constantDouble RX6 340 (4587366580439587226) ∈ wsX6_bendOf := by decide +kernel
abbrev rm_X6_bendOf : Room := { frames := 0, cells := 0, slots := 0, locals := 0 }
set_option maxHeartbeats 4000000 in
set_option maxRecDepth 100000 in
theorem m_X6_bendOf (l : Launch) (D : va_G) (cI cD cB : ClassId) (p1 : Int32) (p2 : Int32) (p3 : Int32) (R : UInt64) (h : f_X6_bendOf p1 p2 p3 = some R) : Cd l yX6_bendOf wsX6_bendOf rm_X6_bendOf D (TT cI cD cB) [.int p1, .int p2, .int p3] [] [] R 0 0 := by
  unfold f_X6_bendOf at h
  refine st_d (cc := cX6_bendOf) (maxL := 5) (by decide) rfl (Nat.le_of_ble_eq_true rfl) (fun p e s m av below meth c A Q ls hx hb hml hts hown hA hK hNM hZ hP hD hS hl hfin => ?_)
  have hown : s.vm.findClass RX6 = some m.cls := hown
  have hl : lv_has ls 5 [(0, .int p1), (1, .int p2), (2, .int p3)] := hl
  refine lv_iload_n hx hb dX6_bendOf_0 rfl (lv_at hl 0 rfl) ?_
  refine lv_if_ne (tgt := 6) hx hb dX6_bendOf_1 (by decide) (fun q1 => ?_) (fun q1 => ?_)
  · replace h := ifn h q1
    refine lv_iload_n hx hb dX6_bendOf_6 rfl (lv_at hl 1 rfl) ?_
    refine lv_iconst (v := (1 : Int32)) hx hb dX6_bendOf_7 (by decide) ?_
    refine lv_icmp_ne (tgt := 17) hx hb dX6_bendOf_8 (by decide) (fun q2 => ?_) (fun q2 => ?_)
    · replace h := ifn h q2
      refine lv_iload_n hx hb dX6_bendOf_17 rfl (lv_at hl 1 rfl) ?_
      refine lv_iconst (v := (2 : Int32)) hx hb dX6_bendOf_18 (by decide) ?_
      refine lv_icmp_ne (tgt := 28) hx hb dX6_bendOf_19 (by decide) (fun q3 => ?_) (fun q3 => ?_)
      · replace h := ifn h q3
        refine lv_dconst0 hx hb dX6_bendOf_28 ?_
        refine lv_dstore_n (lv' := [(3, .double FP.dconst0), (0, .int p1), (1, .int p2), (2, .int p3)]) hx hb dX6_bendOf_29 rfl hl (by decide) rfl (fun ls hl => ?_)
        refine lv_iload_n hx hb dX6_bendOf_30 rfl (lv_at hl 1 rfl) ?_
        refine lv_i2d hx hb dX6_bendOf_31 ?_
        refine lv_ldc2d hx hb hown (hts _ mk_X6_bendOf_144) dX6_bendOf_32 ?_
        obtain ⟨g4, h⟩ := gd_e h
        refine lv_ddiv hx hb dX6_bendOf_35 (n64_n g4) ?_
        refine lv_dconst1 hx hb dX6_bendOf_36 ?_
        refine lv_iload_n hx hb dX6_bendOf_37 rfl (lv_at hl 3 rfl) ?_
        refine lv_iconst (v := (1 : Int32)) hx hb dX6_bendOf_38 (by decide) ?_
        refine lv_isub hx hb dX6_bendOf_39 ?_
        refine lv_i2d hx hb dX6_bendOf_40 ?_
        refine lv_dload_n hx hb dX6_bendOf_41 rfl (lv_at hl 0 rfl) ?_
        obtain ⟨g5, h⟩ := gd_e h
        refine lv_dmul hx hb dX6_bendOf_42 (n64_n g5) ?_
        obtain ⟨g6, h⟩ := gd_e h
        refine lv_dadd hx hb dX6_bendOf_43 (n64_n g6) ?_
        obtain ⟨g7, h⟩ := gd_e h
        refine lv_dmul hx hb dX6_bendOf_44 (n64_n g7) ?_
        rw [← some_e h] at hfin
        exact hfin 45 _ _ _ dX6_bendOf_45 hP hD hS
      · replace h := ifp h q3
        refine lv_ldc2d hx hb hown (hts _ mk_X6_bendOf_340) dX6_bendOf_22 ?_
        refine lv_goto (tgt := 29) hx hb dX6_bendOf_25 (by decide) ?_
        refine lv_dstore_n (lv' := [(3, .double (4587366580439587226 : UInt64)), (0, .int p1), (1, .int p2), (2, .int p3)]) hx hb dX6_bendOf_29 rfl hl (by decide) rfl (fun ls hl => ?_)
        refine lv_iload_n hx hb dX6_bendOf_30 rfl (lv_at hl 1 rfl) ?_
        refine lv_i2d hx hb dX6_bendOf_31 ?_
        refine lv_ldc2d hx hb hown (hts _ mk_X6_bendOf_144) dX6_bendOf_32 ?_
        obtain ⟨g8, h⟩ := gd_e h
        refine lv_ddiv hx hb dX6_bendOf_35 (n64_n g8) ?_
        refine lv_dconst1 hx hb dX6_bendOf_36 ?_
        refine lv_iload_n hx hb dX6_bendOf_37 rfl (lv_at hl 3 rfl) ?_
        refine lv_iconst (v := (1 : Int32)) hx hb dX6_bendOf_38 (by decide) ?_
        refine lv_isub hx hb dX6_bendOf_39 ?_
        refine lv_i2d hx hb dX6_bendOf_40 ?_
        refine lv_dload_n hx hb dX6_bendOf_41 rfl (lv_at hl 0 rfl) ?_
        obtain ⟨g9, h⟩ := gd_e h
        refine lv_dmul hx hb dX6_bendOf_42 (n64_n g9) ?_
        obtain ⟨g10, h⟩ := gd_e h
        refine lv_dadd hx hb dX6_bendOf_43 (n64_n g10) ?_
        obtain ⟨g11, h⟩ := gd_e h
        refine lv_dmul hx hb dX6_bendOf_44 (n64_n g11) ?_
        rw [← some_e h] at hfin
        exact hfin 45 _ _ _ dX6_bendOf_45 hP hD hS
    · replace h := ifp h q2
      refine lv_ldc2d hx hb hown (hts _ mk_X6_bendOf_338) dX6_bendOf_11 ?_
      refine lv_goto (tgt := 29) hx hb dX6_bendOf_14 (by decide) ?_
      refine lv_dstore_n (lv' := [(3, .double (4581421828931458171 : UInt64)), (0, .int p1), (1, .int p2), (2, .int p3)]) hx hb dX6_bendOf_29 rfl hl (by decide) rfl (fun ls hl => ?_)
      refine lv_iload_n hx hb dX6_bendOf_30 rfl (lv_at hl 1 rfl) ?_
      refine lv_i2d hx hb dX6_bendOf_31 ?_
      refine lv_ldc2d hx hb hown (hts _ mk_X6_bendOf_144) dX6_bendOf_32 ?_
      obtain ⟨g12, h⟩ := gd_e h
      refine lv_ddiv hx hb dX6_bendOf_35 (n64_n g12) ?_
      refine lv_dconst1 hx hb dX6_bendOf_36 ?_
      refine lv_iload_n hx hb dX6_bendOf_37 rfl (lv_at hl 3 rfl) ?_
      refine lv_iconst (v := (1 : Int32)) hx hb dX6_bendOf_38 (by decide) ?_
      refine lv_isub hx hb dX6_bendOf_39 ?_
      refine lv_i2d hx hb dX6_bendOf_40 ?_
      refine lv_dload_n hx hb dX6_bendOf_41 rfl (lv_at hl 0 rfl) ?_
      obtain ⟨g13, h⟩ := gd_e h
      refine lv_dmul hx hb dX6_bendOf_42 (n64_n g13) ?_
      obtain ⟨g14, h⟩ := gd_e h
      refine lv_dadd hx hb dX6_bendOf_43 (n64_n g14) ?_
      obtain ⟨g15, h⟩ := gd_e h
      refine lv_dmul hx hb dX6_bendOf_44 (n64_n g15) ?_
      rw [← some_e h] at hfin
      exact hfin 45 _ _ _ dX6_bendOf_45 hP hD hS
  · replace h := ifp h q1
    refine lv_dconst0 hx hb dX6_bendOf_4 ?_
    rw [← some_e h] at hfin
    exact hfin 5 _ _ _ dX6_bendOf_5 hP hD hS
