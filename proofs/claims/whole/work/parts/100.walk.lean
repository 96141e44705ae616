theorem mc_X0_clear_X0 : ∀ w ∈ wsX00, w ∈ wsX0_clear := by decide +kernel
theorem mf_X0_clear_15 : Cond.fieldLink RX0 15 "Lensbench$Choice" "least" "D" ∈ wsX0_clear := by decide +kernel
theorem mf_X0_clear_9 : Cond.fieldLink RX0 9 "Lensbench$Choice" "place" "I" ∈ wsX0_clear := by decide +kernel
abbrev rm_X0_clear : Room := { frames := 0, cells := 0, slots := 0, locals := 0 }
set_option maxHeartbeats 4000000 in
set_option maxRecDepth 100000 in
theorem m_X0_clear (l : Launch) (D : va_G) (cI cD cB : ClassId) (a_t : Nat) (c_t_place : Int32) (c_t_least : UInt64) (R : Int32 × UInt64) (h : f_X0_clear = some R) : Cv l yX0_clear wsX0_clear rm_X0_clear D (TT cI cD cB) [.ref a_t] [(a_t, .inr (2, [.int c_t_place, .double c_t_least]))] [(a_t, .inr (2, [.int R.1, .double R.2]))] 0 0 := by
  unfold f_X0_clear at h
  refine st_v (cc := cX0_clear) (maxL := 1) (by decide) rfl (Nat.le_of_ble_eq_true rfl) (fun p e s m av below meth c A Q ls hx hb hml hts hown hA hK hNM hZ hP hD hS hl hfin => ?_)
  have hown : s.vm.findClass RX0 = some m.cls := hown
  have hl : lv_has ls 1 [(0, .ref a_t)] := hl
  refine lv_aload_n hx hb dX0_clear_0 rfl (lv_at hl 0 rfl) ?_
  refine lv_iconst (v := (-1 : Int32)) hx hb dX0_clear_1 (by decide) ?_
  refine va_put (D := D) (ci := 2) (v := .int (-1 : Int32)) (ty := .int) (C := RX0) (T := TX0) (N := 2) hx hb hts mc_X0_clear_X0 tyX0 tyX0_ok nmX0 hown hK hP hD hS 0 rfl rfl 0 (by decide) (hts _ mf_X0_clear_9) (fun _ h9 => h9) rfl (tyX0_ok 0 (by decide)) rfl rfl (Nat.le_of_ble_eq_true rfl) dX0_clear_2 (fun H locs hP hD hS => ?_)
  have hP : va_P D vwCl [(a_t, .inr (2, [.int (-1 : Int32), .double c_t_least]))] H := hP
  have hD : va_D A [(a_t, .inr (2, [.int (-1 : Int32), .double c_t_least]))] := hD
  refine lv_aload_n hx hb dX0_clear_5 rfl (lv_at hl 0 rfl) ?_
  refine lv_dconst0 hx hb dX0_clear_6 ?_
  refine va_put (D := D) (ci := 2) (v := .double FP.dconst0) (ty := .double) (C := RX0) (T := TX0) (N := 2) hx hb hts mc_X0_clear_X0 tyX0 tyX0_ok nmX0 hown hK hP hD hS 0 rfl rfl 1 (by decide) (hts _ mf_X0_clear_15) (fun _ h9 => h9) rfl (tyX0_ok 1 (by decide)) rfl rfl (Nat.le_of_ble_eq_true rfl) dX0_clear_7 (fun H locs hP hD hS => ?_)
  have hP : va_P D vwCl [(a_t, .inr (2, [.int (-1 : Int32), .double FP.dconst0]))] H := hP
  have hD : va_D A [(a_t, .inr (2, [.int (-1 : Int32), .double FP.dconst0]))] := hD
  rw [← some_e h] at hfin
  exact hfin 10 _ _ _ dX0_clear_10 hP hD hS
theorem mc_X1_spread_X1 : ∀ w ∈ wsX10, w ∈ wsX1_spread := by decide +kernel
theorem mf_X1_spread_22 : Cond.fieldLink RX1 22 "Lensbench$Fan" "came" "I" ∈ wsX1_spread := by decide +kernel
theorem mf_X1_spread_43 : Cond.fieldLink RX1 43 "Lensbench$Fan" "lowest" "D" ∈ wsX1_spread := by decide +kernel
theorem mf_X1_spread_46 : Cond.fieldLink RX1 46 "Lensbench$Fan" "highest" "D" ∈ wsX1_spread := by decide +kernel
abbrev rm_X1_spread : Room := { frames := 0, cells := 0, slots := 0, locals := 0 }
set_option maxHeartbeats 4000000 in
set_option maxRecDepth 100000 in
theorem m_X1_spread (l : Launch) (D : va_G) (cI cD cB : ClassId) (a_t : Nat) (a_t_ray : Nat) (a_t_cuts : Nat) (c_t_came : Int32) (c_t_lowest : UInt64) (c_t_highest : UInt64) (R : UInt64) (h : f_X1_spread c_t_came c_t_lowest c_t_highest = some R) : Cd l yX1_spread wsX1_spread rm_X1_spread D (TT cI cD cB) [.ref a_t] [(a_t, .inr (3, [.ref a_t_ray, .ref a_t_cuts, .int c_t_came, .double c_t_lowest, .double c_t_highest]))] [(a_t, .inr (3, [.ref a_t_ray, .ref a_t_cuts, .int c_t_came, .double c_t_lowest, .double c_t_highest]))] R 0 0 := by
  unfold f_X1_spread at h
  refine st_d (cc := cX1_spread) (maxL := 1) (by decide) rfl (Nat.le_of_ble_eq_true rfl) (fun p e s m av below meth c A Q ls hx hb hml hts hown hA hK hNM hZ hP hD hS hl hfin => ?_)
  have hown : s.vm.findClass RX1 = some m.cls := hown
  have hl : lv_has ls 1 [(0, .ref a_t)] := hl
  refine lv_aload_n hx hb dX1_spread_0 rfl (lv_at hl 0 rfl) ?_
  refine va_get (D := D) (ci := 3) (v := .int c_t_came) (C := RX1) (T := TX1) (N := 5) hx hb hts mc_X1_spread_X1 hown hK hP 0 rfl rfl 2 (by decide) (hts _ mf_X1_spread_22) (fun _ h9 => h9) rfl dX1_spread_1 ?_
  refine lv_if_ne (tgt := 11) hx hb dX1_spread_4 (by decide) (fun q1 => ?_) (fun q1 => ?_)
  · replace h := ifn h q1
    refine lv_aload_n hx hb dX1_spread_11 rfl (lv_at hl 0 rfl) ?_
    refine va_get (D := D) (ci := 3) (v := .double c_t_highest) (C := RX1) (T := TX1) (N := 5) hx hb hts mc_X1_spread_X1 hown hK hP 0 rfl rfl 4 (by decide) (hts _ mf_X1_spread_46) (fun _ h9 => h9) rfl dX1_spread_12 ?_
    refine lv_aload_n hx hb dX1_spread_15 rfl (lv_at hl 0 rfl) ?_
    refine va_get (D := D) (ci := 3) (v := .double c_t_lowest) (C := RX1) (T := TX1) (N := 5) hx hb hts mc_X1_spread_X1 hown hK hP 0 rfl rfl 3 (by decide) (hts _ mf_X1_spread_43) (fun _ h9 => h9) rfl dX1_spread_16 ?_
    obtain ⟨g2, h⟩ := gd_e h
    refine lv_dsub hx hb dX1_spread_19 (n64_n g2) ?_
    rw [← some_e h] at hfin
    exact hfin 20 _ _ _ dX1_spread_20 hP hD hS
  · replace h := ifp h q1
    refine lv_dconst0 hx hb dX1_spread_7 ?_
    refine lv_goto (tgt := 20) hx hb dX1_spread_8 (by decide) ?_
    rw [← some_e h] at hfin
    exact hfin 20 _ _ _ dX1_spread_20 hP hD hS
theorem mc_X0_offer_X0 : ∀ w ∈ wsX00, w ∈ wsX0_offer := by decide +kernel
theorem mc_X0_offer_X1 : ∀ w ∈ wsX10, w ∈ wsX0_offer := by decide +kernel
theorem mf_X0_offer_15 : Cond.fieldLink RX0 15 "Lensbench$Choice" "least" "D" ∈ wsX0_offer := by decide +kernel
theorem mf_X0_offer_19 : Cond.fieldLink RX0 19 "Lensbench$Fan" "came" "I" ∈ wsX0_offer := by decide +kernel
theorem mf_X0_offer_9 : Cond.fieldLink RX0 9 "Lensbench$Choice" "place" "I" ∈ wsX0_offer := by decide +kernel
abbrev rm_X0_offer : Room := { frames := 1, cells := 0, slots := 0, locals := 20 }
set_option maxHeartbeats 4000000 in
set_option maxRecDepth 100000 in
theorem m_X0_offer (l : Launch) (D : va_G) (cI cD cB : ClassId) (a_t : Nat) (a_p2 : Nat) (a_p2_ray : Nat) (a_p2_cuts : Nat) (p1 : Int32) (c_t_place : Int32) (c_t_least : UInt64) (c_p2_came : Int32) (c_p2_lowest : UInt64) (c_p2_highest : UInt64) (R : Int32 × UInt64) (h : f_X0_offer p1 c_t_place c_t_least c_p2_came c_p2_lowest c_p2_highest = some R) : Cv l yX0_offer wsX0_offer rm_X0_offer D (TT cI cD cB) [.ref a_t, .int p1, .ref a_p2] [(a_t, .inr (2, [.int c_t_place, .double c_t_least])), (a_p2, .inr (3, [.ref a_p2_ray, .ref a_p2_cuts, .int c_p2_came, .double c_p2_lowest, .double c_p2_highest]))] [(a_t, .inr (2, [.int R.1, .double R.2])), (a_p2, .inr (3, [.ref a_p2_ray, .ref a_p2_cuts, .int c_p2_came, .double c_p2_lowest, .double c_p2_highest]))] 0 0 := by
  unfold f_X0_offer at h
  refine st_v (cc := cX0_offer) (maxL := 5) (by decide) rfl (Nat.le_of_ble_eq_true rfl) (fun p e s m av below meth c A Q ls hx hb hml hts hown hA hK hNM hZ hP hD hS hl hfin => ?_)
  have hown : s.vm.findClass RX0 = some m.cls := hown
  have hl : lv_has ls 5 [(0, .ref a_t), (1, .int p1), (2, .ref a_p2)] := hl
  refine lv_aload_n hx hb dX0_offer_0 rfl (lv_at hl 2 rfl) ?_
  refine va_get (D := D) (ci := 3) (v := .int c_p2_came) (C := RX1) (T := TX1) (N := 5) hx hb hts mc_X0_offer_X1 hown hK hP 1 rfl rfl 2 (by decide) (hts _ mf_X0_offer_19) (fun _ h9 => h9) rfl dX0_offer_1 ?_
  refine lv_if_ne (tgt := 8) hx hb dX0_offer_4 (by decide) (fun q1 => ?_) (fun q1 => ?_)
  · replace h := ifn h q1
    refine lv_aload_n hx hb dX0_offer_8 rfl (lv_at hl 2 rfl) ?_
    obtain ⟨o2, e3, h⟩ := bd_e h
    refine co_d (W0 := [(a_p2, .inr (3, [.ref a_p2_ray, .ref a_p2_cuts, .int c_p2_came, .double c_p2_lowest, .double c_p2_highest]))]) (wr := [(a_t, .inr (2, [.int c_t_place, .double c_t_least]))]) (W1 := [(a_p2, .inr (3, [.ref a_p2_ray, .ref a_p2_cuts, .int c_p2_came, .double c_p2_lowest, .double c_p2_highest]))]) (ws2 := [(a_t, .inr (2, [.int c_t_place, .double c_t_least])), (a_p2, .inr (3, [.ref a_p2_ray, .ref a_p2_cuts, .int c_p2_came, .double c_p2_lowest, .double c_p2_highest]))]) (va_runV (C := RX1) (As := []) (rest := []) ⟨hx, hb, hml, hown, hts⟩ (m_X1_spread l D cI cD cB a_p2 a_p2_ray a_p2_cuts c_p2_came c_p2_lowest c_p2_highest o2 e3 _) (cwV 0 hts gX0_offer_X1_spread rfl rfl rfl (by decide +kernel) ⟨Nat.le_of_ble_eq_true rfl, Nat.le_of_ble_eq_true rfl⟩) (my_preV (q := (RX1, TX1, 5)) (ci := 3) (q0 := 1) [1] hP hK hNM hZ hD hS hA rfl rfl rfl rfl) rfl rfl hl.1 rfl (lv_room (Nat.le_of_ble_eq_true rfl)) dX0_offer_9 ⟨Nat.zero_le _, Nat.zero_le _⟩) hP hD hS hA [1] [0] [0, 1] rfl rfl rfl rfl rfl (by decide) (fun H locs hP hD hS => ?_)
    refine lv_dstore_n (lv' := [(3, .double o2), (0, .ref a_t), (1, .int p1), (2, .ref a_p2)]) hx hb dX0_offer_12 rfl hl (by decide) rfl (fun ls hl => ?_)
    refine lv_aload_n hx hb dX0_offer_13 rfl (lv_at hl 1 rfl) ?_
    refine va_get (D := D) (ci := 2) (v := .int c_t_place) (C := RX0) (T := TX0) (N := 2) hx hb hts mc_X0_offer_X0 hown hK hP 0 rfl rfl 0 (by decide) (hts _ mf_X0_offer_9) (fun _ h9 => h9) rfl dX0_offer_14 ?_
    refine lv_iconst (v := (-1 : Int32)) hx hb dX0_offer_17 (by decide) ?_
    refine lv_icmp_eq (tgt := 30) hx hb dX0_offer_18 (by decide) (fun q4 => ?_) (fun q4 => ?_)
    · replace h := ifp h q4
      refine lv_aload_n hx hb dX0_offer_30 rfl (lv_at hl 1 rfl) ?_
      refine lv_iload_n hx hb dX0_offer_31 rfl (lv_at hl 2 rfl) ?_
      refine va_put (D := D) (ci := 2) (v := .int p1) (ty := .int) (C := RX0) (T := TX0) (N := 2) hx hb hts mc_X0_offer_X0 tyX0 tyX0_ok nmX0 hown hK hP hD hS 0 rfl rfl 0 (by decide) (hts _ mf_X0_offer_9) (fun _ h9 => h9) rfl (tyX0_ok 0 (by decide)) rfl rfl (Nat.le_of_ble_eq_true rfl) dX0_offer_32 (fun H locs hP hD hS => ?_)
      have hP : va_P D vwCl [(a_t, .inr (2, [.int p1, .double c_t_least])), (a_p2, .inr (3, [.ref a_p2_ray, .ref a_p2_cuts, .int c_p2_came, .double c_p2_lowest, .double c_p2_highest]))] H := hP
      have hD : va_D A [(a_t, .inr (2, [.int p1, .double c_t_least])), (a_p2, .inr (3, [.ref a_p2_ray, .ref a_p2_cuts, .int c_p2_came, .double c_p2_lowest, .double c_p2_highest]))] := hD
      refine lv_aload_n hx hb dX0_offer_35 rfl (lv_at hl 1 rfl) ?_
      refine lv_dload_n hx hb dX0_offer_36 rfl (lv_at hl 0 rfl) ?_
      refine va_put (D := D) (ci := 2) (v := .double o2) (ty := .double) (C := RX0) (T := TX0) (N := 2) hx hb hts mc_X0_offer_X0 tyX0 tyX0_ok nmX0 hown hK hP hD hS 0 rfl rfl 1 (by decide) (hts _ mf_X0_offer_15) (fun _ h9 => h9) rfl (tyX0_ok 1 (by decide)) rfl rfl (Nat.le_of_ble_eq_true rfl) dX0_offer_37 (fun H locs hP hD hS => ?_)
      have hP : va_P D vwCl [(a_t, .inr (2, [.int p1, .double o2])), (a_p2, .inr (3, [.ref a_p2_ray, .ref a_p2_cuts, .int c_p2_came, .double c_p2_lowest, .double c_p2_highest]))] H := hP
      have hD : va_D A [(a_t, .inr (2, [.int p1, .double o2])), (a_p2, .inr (3, [.ref a_p2_ray, .ref a_p2_cuts, .int c_p2_came, .double c_p2_lowest, .double c_p2_highest]))] := hD
      rw [← some_e h] at hfin
      exact hfin 40 _ _ _ dX0_offer_40 hP hD hS
    · replace h := ifn h q4
      refine lv_dload_n hx hb dX0_offer_21 rfl (lv_at hl 0 rfl) ?_
      refine lv_aload_n hx hb dX0_offer_22 rfl (lv_at hl 1 rfl) ?_
      refine va_get (D := D) (ci := 2) (v := .double c_t_least) (C := RX0) (T := TX0) (N := 2) hx hb hts mc_X0_offer_X0 hown hK hP 0 rfl rfl 1 (by decide) (hts _ mf_X0_offer_15) (fun _ h9 => h9) rfl dX0_offer_23 ?_
      refine lv_dcmp hx hb dX0_offer_26 ?_
      refine lv_if_ge (tgt := 40) hx hb dX0_offer_27 (by decide) (fun q5 => ?_) (fun q5 => ?_)
      · replace h := ifp h q5
        rw [← some_e h] at hfin
        exact hfin 40 _ _ _ dX0_offer_40 hP hD hS
      · replace h := ifn h q5
        refine lv_aload_n hx hb dX0_offer_30 rfl (lv_at hl 1 rfl) ?_
        refine lv_iload_n hx hb dX0_offer_31 rfl (lv_at hl 2 rfl) ?_
        refine va_put (D := D) (ci := 2) (v := .int p1) (ty := .int) (C := RX0) (T := TX0) (N := 2) hx hb hts mc_X0_offer_X0 tyX0 tyX0_ok nmX0 hown hK hP hD hS 0 rfl rfl 0 (by decide) (hts _ mf_X0_offer_9) (fun _ h9 => h9) rfl (tyX0_ok 0 (by decide)) rfl rfl (Nat.le_of_ble_eq_true rfl) dX0_offer_32 (fun H locs hP hD hS => ?_)
        have hP : va_P D vwCl [(a_t, .inr (2, [.int p1, .double c_t_least])), (a_p2, .inr (3, [.ref a_p2_ray, .ref a_p2_cuts, .int c_p2_came, .double c_p2_lowest, .double c_p2_highest]))] H := hP
        have hD : va_D A [(a_t, .inr (2, [.int p1, .double c_t_least])), (a_p2, .inr (3, [.ref a_p2_ray, .ref a_p2_cuts, .int c_p2_came, .double c_p2_lowest, .double c_p2_highest]))] := hD
        refine lv_aload_n hx hb dX0_offer_35 rfl (lv_at hl 1 rfl) ?_
        refine lv_dload_n hx hb dX0_offer_36 rfl (lv_at hl 0 rfl) ?_
        refine va_put (D := D) (ci := 2) (v := .double o2) (ty := .double) (C := RX0) (T := TX0) (N := 2) hx hb hts mc_X0_offer_X0 tyX0 tyX0_ok nmX0 hown hK hP hD hS 0 rfl rfl 1 (by decide) (hts _ mf_X0_offer_15) (fun _ h9 => h9) rfl (tyX0_ok 1 (by decide)) rfl rfl (Nat.le_of_ble_eq_true rfl) dX0_offer_37 (fun H locs hP hD hS => ?_)
        have hP : va_P D vwCl [(a_t, .inr (2, [.int p1, .double o2])), (a_p2, .inr (3, [.ref a_p2_ray, .ref a_p2_cuts, .int c_p2_came, .double c_p2_lowest, .double c_p2_highest]))] H := hP
        have hD : va_D A [(a_t, .inr (2, [.int p1, .double o2])), (a_p2, .inr (3, [.ref a_p2_ray, .ref a_p2_cuts, .int c_p2_came, .double c_p2_lowest, .double c_p2_highest]))] := hD
        rw [← some_e h] at hfin
        exact hfin 40 _ _ _ dX0_offer_40 hP hD hS
  · replace h := ifp h q1
    rw [← some_e h] at hfin
    exact hfin 7 _ _ _ dX0_offer_7 hP hD hS
theorem mc_X1_arrive_X1 : ∀ w ∈ wsX10, w ∈ wsX1_arrive := by decide +kernel
theorem mf_X1_arrive_22 : Cond.fieldLink RX1 22 "Lensbench$Fan" "came" "I" ∈ wsX1_arrive := by decide +kernel
theorem mf_X1_arrive_43 : Cond.fieldLink RX1 43 "Lensbench$Fan" "lowest" "D" ∈ wsX1_arrive := by decide +kernel
theorem mf_X1_arrive_46 : Cond.fieldLink RX1 46 "Lensbench$Fan" "highest" "D" ∈ wsX1_arrive := by decide +kernel
abbrev rm_X1_arrive : Room := { frames := 0, cells := 0, slots := 0, locals := 0 }
set_option maxHeartbeats 4000000 in
set_option maxRecDepth 100000 in
theorem m_X1_arrive (l : Launch) (D : va_G) (cI cD cB : ClassId) (a_t : Nat) (a_t_ray : Nat) (a_t_cuts : Nat) (p1 : UInt64) (c_t_came : Int32) (c_t_lowest : UInt64) (c_t_highest : UInt64) (R : Int32 × UInt64 × UInt64) (h : f_X1_arrive p1 c_t_came c_t_lowest c_t_highest = some R) : Cv l yX1_arrive wsX1_arrive rm_X1_arrive D (TT cI cD cB) [.ref a_t, .double p1] [(a_t, .inr (3, [.ref a_t_ray, .ref a_t_cuts, .int c_t_came, .double c_t_lowest, .double c_t_highest]))] [(a_t, .inr (3, [.ref a_t_ray, .ref a_t_cuts, .int R.1, .double R.2.1, .double R.2.2]))] 0 0 := by
  unfold f_X1_arrive at h
  refine st_v (cc := cX1_arrive) (maxL := 3) (by decide) rfl (Nat.le_of_ble_eq_true rfl) (fun p e s m av below meth c A Q ls hx hb hml hts hown hA hK hNM hZ hP hD hS hl hfin => ?_)
  have hown : s.vm.findClass RX1 = some m.cls := hown
  have hl : lv_has ls 3 [(0, .ref a_t), (1, .double p1)] := hl
  refine lv_aload_n hx hb dX1_arrive_0 rfl (lv_at hl 0 rfl) ?_
  refine va_get (D := D) (ci := 3) (v := .int c_t_came) (C := RX1) (T := TX1) (N := 5) hx hb hts mc_X1_arrive_X1 hown hK hP 0 rfl rfl 2 (by decide) (hts _ mf_X1_arrive_22) (fun _ h9 => h9) rfl dX1_arrive_1 ?_
  refine lv_if_eq (tgt := 16) hx hb dX1_arrive_4 (by decide) (fun q1 => ?_) (fun q1 => ?_)
  · replace h := ifp h q1
    refine lv_aload_n hx hb dX1_arrive_16 rfl (lv_at hl 0 rfl) ?_
    refine lv_dload_n hx hb dX1_arrive_17 rfl (lv_at hl 1 rfl) ?_
    refine va_put (D := D) (ci := 3) (v := .double p1) (ty := .double) (C := RX1) (T := TX1) (N := 5) hx hb hts mc_X1_arrive_X1 tyX1 tyX1_ok nmX1 hown hK hP hD hS 0 rfl rfl 3 (by decide) (hts _ mf_X1_arrive_43) (fun _ h9 => h9) rfl (tyX1_ok 3 (by decide)) rfl rfl (Nat.le_of_ble_eq_true rfl) dX1_arrive_18 (fun H locs hP hD hS => ?_)
    have hP : va_P D vwCl [(a_t, .inr (3, [.ref a_t_ray, .ref a_t_cuts, .int c_t_came, .double p1, .double c_t_highest]))] H := hP
    have hD : va_D A [(a_t, .inr (3, [.ref a_t_ray, .ref a_t_cuts, .int c_t_came, .double p1, .double c_t_highest]))] := hD
    refine lv_aload_n hx hb dX1_arrive_21 rfl (lv_at hl 0 rfl) ?_
    refine va_get (D := D) (ci := 3) (v := .int c_t_came) (C := RX1) (T := TX1) (N := 5) hx hb hts mc_X1_arrive_X1 hown hK hP 0 rfl rfl 2 (by decide) (hts _ mf_X1_arrive_22) (fun _ h9 => h9) rfl dX1_arrive_22 ?_
    refine lv_if_eq (tgt := 37) hx hb dX1_arrive_25 (by decide) (fun q2 => ?_) (fun q2 => ?_)
    · replace h := ifp h q2
      refine lv_aload_n hx hb dX1_arrive_37 rfl (lv_at hl 0 rfl) ?_
      refine lv_dload_n hx hb dX1_arrive_38 rfl (lv_at hl 1 rfl) ?_
      refine va_put (D := D) (ci := 3) (v := .double p1) (ty := .double) (C := RX1) (T := TX1) (N := 5) hx hb hts mc_X1_arrive_X1 tyX1 tyX1_ok nmX1 hown hK hP hD hS 0 rfl rfl 4 (by decide) (hts _ mf_X1_arrive_46) (fun _ h9 => h9) rfl (tyX1_ok 4 (by decide)) rfl rfl (Nat.le_of_ble_eq_true rfl) dX1_arrive_39 (fun H locs hP hD hS => ?_)
      have hP : va_P D vwCl [(a_t, .inr (3, [.ref a_t_ray, .ref a_t_cuts, .int c_t_came, .double p1, .double p1]))] H := hP
      have hD : va_D A [(a_t, .inr (3, [.ref a_t_ray, .ref a_t_cuts, .int c_t_came, .double p1, .double p1]))] := hD
      refine lv_aload_n hx hb dX1_arrive_42 rfl (lv_at hl 0 rfl) ?_
      refine lv_dup hx hb dX1_arrive_43 rfl ?_
      refine va_get (D := D) (ci := 3) (v := .int c_t_came) (C := RX1) (T := TX1) (N := 5) hx hb hts mc_X1_arrive_X1 hown hK hP 0 rfl rfl 2 (by decide) (hts _ mf_X1_arrive_22) (fun _ h9 => h9) rfl dX1_arrive_44 ?_
      refine lv_iconst (v := (1 : Int32)) hx hb dX1_arrive_47 (by decide) ?_
      refine lv_iadd hx hb dX1_arrive_48 ?_
      refine va_put (D := D) (ci := 3) (v := .int (c_t_came + (1 : Int32))) (ty := .int) (C := RX1) (T := TX1) (N := 5) hx hb hts mc_X1_arrive_X1 tyX1 tyX1_ok nmX1 hown hK hP hD hS 0 rfl rfl 2 (by decide) (hts _ mf_X1_arrive_22) (fun _ h9 => h9) rfl (tyX1_ok 2 (by decide)) rfl rfl (Nat.le_of_ble_eq_true rfl) dX1_arrive_49 (fun H locs hP hD hS => ?_)
      have hP : va_P D vwCl [(a_t, .inr (3, [.ref a_t_ray, .ref a_t_cuts, .int (c_t_came + (1 : Int32)), .double p1, .double p1]))] H := hP
      have hD : va_D A [(a_t, .inr (3, [.ref a_t_ray, .ref a_t_cuts, .int (c_t_came + (1 : Int32)), .double p1, .double p1]))] := hD
      rw [← some_e h] at hfin
      exact hfin 52 _ _ _ dX1_arrive_52 hP hD hS
    · replace h := ifn h q2
      refine lv_dload_n hx hb dX1_arrive_28 rfl (lv_at hl 1 rfl) ?_
      refine lv_aload_n hx hb dX1_arrive_29 rfl (lv_at hl 0 rfl) ?_
      refine va_get (D := D) (ci := 3) (v := .double c_t_highest) (C := RX1) (T := TX1) (N := 5) hx hb hts mc_X1_arrive_X1 hown hK hP 0 rfl rfl 4 (by decide) (hts _ mf_X1_arrive_46) (fun _ h9 => h9) rfl dX1_arrive_30 ?_
      refine lv_dcmp hx hb dX1_arrive_33 ?_
      refine lv_if_le (tgt := 42) hx hb dX1_arrive_34 (by decide) (fun q3 => ?_) (fun q3 => ?_)
      · replace h := ifp h q3
        refine lv_aload_n hx hb dX1_arrive_42 rfl (lv_at hl 0 rfl) ?_
        refine lv_dup hx hb dX1_arrive_43 rfl ?_
        refine va_get (D := D) (ci := 3) (v := .int c_t_came) (C := RX1) (T := TX1) (N := 5) hx hb hts mc_X1_arrive_X1 hown hK hP 0 rfl rfl 2 (by decide) (hts _ mf_X1_arrive_22) (fun _ h9 => h9) rfl dX1_arrive_44 ?_
        refine lv_iconst (v := (1 : Int32)) hx hb dX1_arrive_47 (by decide) ?_
        refine lv_iadd hx hb dX1_arrive_48 ?_
        refine va_put (D := D) (ci := 3) (v := .int (c_t_came + (1 : Int32))) (ty := .int) (C := RX1) (T := TX1) (N := 5) hx hb hts mc_X1_arrive_X1 tyX1 tyX1_ok nmX1 hown hK hP hD hS 0 rfl rfl 2 (by decide) (hts _ mf_X1_arrive_22) (fun _ h9 => h9) rfl (tyX1_ok 2 (by decide)) rfl rfl (Nat.le_of_ble_eq_true rfl) dX1_arrive_49 (fun H locs hP hD hS => ?_)
        have hP : va_P D vwCl [(a_t, .inr (3, [.ref a_t_ray, .ref a_t_cuts, .int (c_t_came + (1 : Int32)), .double p1, .double c_t_highest]))] H := hP
        have hD : va_D A [(a_t, .inr (3, [.ref a_t_ray, .ref a_t_cuts, .int (c_t_came + (1 : Int32)), .double p1, .double c_t_highest]))] := hD
        rw [← some_e h] at hfin
        exact hfin 52 _ _ _ dX1_arrive_52 hP hD hS
      · replace h := ifn h q3
        refine lv_aload_n hx hb dX1_arrive_37 rfl (lv_at hl 0 rfl) ?_
        refine lv_dload_n hx hb dX1_arrive_38 rfl (lv_at hl 1 rfl) ?_
        refine va_put (D := D) (ci := 3) (v := .double p1) (ty := .double) (C := RX1) (T := TX1) (N := 5) hx hb hts mc_X1_arrive_X1 tyX1 tyX1_ok nmX1 hown hK hP hD hS 0 rfl rfl 4 (by decide) (hts _ mf_X1_arrive_46) (fun _ h9 => h9) rfl (tyX1_ok 4 (by decide)) rfl rfl (Nat.le_of_ble_eq_true rfl) dX1_arrive_39 (fun H locs hP hD hS => ?_)
        have hP : va_P D vwCl [(a_t, .inr (3, [.ref a_t_ray, .ref a_t_cuts, .int c_t_came, .double p1, .double p1]))] H := hP
        have hD : va_D A [(a_t, .inr (3, [.ref a_t_ray, .ref a_t_cuts, .int c_t_came, .double p1, .double p1]))] := hD
        refine lv_aload_n hx hb dX1_arrive_42 rfl (lv_at hl 0 rfl) ?_
        refine lv_dup hx hb dX1_arrive_43 rfl ?_
        refine va_get (D := D) (ci := 3) (v := .int c_t_came) (C := RX1) (T := TX1) (N := 5) hx hb hts mc_X1_arrive_X1 hown hK hP 0 rfl rfl 2 (by decide) (hts _ mf_X1_arrive_22) (fun _ h9 => h9) rfl dX1_arrive_44 ?_
        refine lv_iconst (v := (1 : Int32)) hx hb dX1_arrive_47 (by decide) ?_
        refine lv_iadd hx hb dX1_arrive_48 ?_
        refine va_put (D := D) (ci := 3) (v := .int (c_t_came + (1 : Int32))) (ty := .int) (C := RX1) (T := TX1) (N := 5) hx hb hts mc_X1_arrive_X1 tyX1 tyX1_ok nmX1 hown hK hP hD hS 0 rfl rfl 2 (by decide) (hts _ mf_X1_arrive_22) (fun _ h9 => h9) rfl (tyX1_ok 2 (by decide)) rfl rfl (Nat.le_of_ble_eq_true rfl) dX1_arrive_49 (fun H locs hP hD hS => ?_)
        have hP : va_P D vwCl [(a_t, .inr (3, [.ref a_t_ray, .ref a_t_cuts, .int (c_t_came + (1 : Int32)), .double p1, .double p1]))] H := hP
        have hD : va_D A [(a_t, .inr (3, [.ref a_t_ray, .ref a_t_cuts, .int (c_t_came + (1 : Int32)), .double p1, .double p1]))] := hD
        rw [← some_e h] at hfin
        exact hfin 52 _ _ _ dX1_arrive_52 hP hD hS
  · replace h := ifn h q1
    refine lv_dload_n hx hb dX1_arrive_7 rfl (lv_at hl 1 rfl) ?_
    refine lv_aload_n hx hb dX1_arrive_8 rfl (lv_at hl 0 rfl) ?_
    refine va_get (D := D) (ci := 3) (v := .double c_t_lowest) (C := RX1) (T := TX1) (N := 5) hx hb hts mc_X1_arrive_X1 hown hK hP 0 rfl rfl 3 (by decide) (hts _ mf_X1_arrive_43) (fun _ h9 => h9) rfl dX1_arrive_9 ?_
    refine lv_dcmp hx hb dX1_arrive_12 ?_
    refine lv_if_ge (tgt := 21) hx hb dX1_arrive_13 (by decide) (fun q4 => ?_) (fun q4 => ?_)
    · replace h := ifp h q4
      refine lv_aload_n hx hb dX1_arrive_21 rfl (lv_at hl 0 rfl) ?_
      refine va_get (D := D) (ci := 3) (v := .int c_t_came) (C := RX1) (T := TX1) (N := 5) hx hb hts mc_X1_arrive_X1 hown hK hP 0 rfl rfl 2 (by decide) (hts _ mf_X1_arrive_22) (fun _ h9 => h9) rfl dX1_arrive_22 ?_
      refine lv_if_eq (tgt := 37) hx hb dX1_arrive_25 (by decide) (fun q5 => ?_) (fun q5 => ?_)
      · replace h := ifp h q5
        refine lv_aload_n hx hb dX1_arrive_37 rfl (lv_at hl 0 rfl) ?_
        refine lv_dload_n hx hb dX1_arrive_38 rfl (lv_at hl 1 rfl) ?_
        refine va_put (D := D) (ci := 3) (v := .double p1) (ty := .double) (C := RX1) (T := TX1) (N := 5) hx hb hts mc_X1_arrive_X1 tyX1 tyX1_ok nmX1 hown hK hP hD hS 0 rfl rfl 4 (by decide) (hts _ mf_X1_arrive_46) (fun _ h9 => h9) rfl (tyX1_ok 4 (by decide)) rfl rfl (Nat.le_of_ble_eq_true rfl) dX1_arrive_39 (fun H locs hP hD hS => ?_)
        have hP : va_P D vwCl [(a_t, .inr (3, [.ref a_t_ray, .ref a_t_cuts, .int c_t_came, .double c_t_lowest, .double p1]))] H := hP
        have hD : va_D A [(a_t, .inr (3, [.ref a_t_ray, .ref a_t_cuts, .int c_t_came, .double c_t_lowest, .double p1]))] := hD
        refine lv_aload_n hx hb dX1_arrive_42 rfl (lv_at hl 0 rfl) ?_
        refine lv_dup hx hb dX1_arrive_43 rfl ?_
        refine va_get (D := D) (ci := 3) (v := .int c_t_came) (C := RX1) (T := TX1) (N := 5) hx hb hts mc_X1_arrive_X1 hown hK hP 0 rfl rfl 2 (by decide) (hts _ mf_X1_arrive_22) (fun _ h9 => h9) rfl dX1_arrive_44 ?_
        refine lv_iconst (v := (1 : Int32)) hx hb dX1_arrive_47 (by decide) ?_
        refine lv_iadd hx hb dX1_arrive_48 ?_
        refine va_put (D := D) (ci := 3) (v := .int (c_t_came + (1 : Int32))) (ty := .int) (C := RX1) (T := TX1) (N := 5) hx hb hts mc_X1_arrive_X1 tyX1 tyX1_ok nmX1 hown hK hP hD hS 0 rfl rfl 2 (by decide) (hts _ mf_X1_arrive_22) (fun _ h9 => h9) rfl (tyX1_ok 2 (by decide)) rfl rfl (Nat.le_of_ble_eq_true rfl) dX1_arrive_49 (fun H locs hP hD hS => ?_)
        have hP : va_P D vwCl [(a_t, .inr (3, [.ref a_t_ray, .ref a_t_cuts, .int (c_t_came + (1 : Int32)), .double c_t_lowest, .double p1]))] H := hP
        have hD : va_D A [(a_t, .inr (3, [.ref a_t_ray, .ref a_t_cuts, .int (c_t_came + (1 : Int32)), .double c_t_lowest, .double p1]))] := hD
        rw [← some_e h] at hfin
        exact hfin 52 _ _ _ dX1_arrive_52 hP hD hS
      · replace h := ifn h q5
        refine lv_dload_n hx hb dX1_arrive_28 rfl (lv_at hl 1 rfl) ?_
        refine lv_aload_n hx hb dX1_arrive_29 rfl (lv_at hl 0 rfl) ?_
        refine va_get (D := D) (ci := 3) (v := .double c_t_highest) (C := RX1) (T := TX1) (N := 5) hx hb hts mc_X1_arrive_X1 hown hK hP 0 rfl rfl 4 (by decide) (hts _ mf_X1_arrive_46) (fun _ h9 => h9) rfl dX1_arrive_30 ?_
        refine lv_dcmp hx hb dX1_arrive_33 ?_
        refine lv_if_le (tgt := 42) hx hb dX1_arrive_34 (by decide) (fun q6 => ?_) (fun q6 => ?_)
        · replace h := ifp h q6
          refine lv_aload_n hx hb dX1_arrive_42 rfl (lv_at hl 0 rfl) ?_
          refine lv_dup hx hb dX1_arrive_43 rfl ?_
          refine va_get (D := D) (ci := 3) (v := .int c_t_came) (C := RX1) (T := TX1) (N := 5) hx hb hts mc_X1_arrive_X1 hown hK hP 0 rfl rfl 2 (by decide) (hts _ mf_X1_arrive_22) (fun _ h9 => h9) rfl dX1_arrive_44 ?_
          refine lv_iconst (v := (1 : Int32)) hx hb dX1_arrive_47 (by decide) ?_
          refine lv_iadd hx hb dX1_arrive_48 ?_
          refine va_put (D := D) (ci := 3) (v := .int (c_t_came + (1 : Int32))) (ty := .int) (C := RX1) (T := TX1) (N := 5) hx hb hts mc_X1_arrive_X1 tyX1 tyX1_ok nmX1 hown hK hP hD hS 0 rfl rfl 2 (by decide) (hts _ mf_X1_arrive_22) (fun _ h9 => h9) rfl (tyX1_ok 2 (by decide)) rfl rfl (Nat.le_of_ble_eq_true rfl) dX1_arrive_49 (fun H locs hP hD hS => ?_)
          have hP : va_P D vwCl [(a_t, .inr (3, [.ref a_t_ray, .ref a_t_cuts, .int (c_t_came + (1 : Int32)), .double c_t_lowest, .double c_t_highest]))] H := hP
          have hD : va_D A [(a_t, .inr (3, [.ref a_t_ray, .ref a_t_cuts, .int (c_t_came + (1 : Int32)), .double c_t_lowest, .double c_t_highest]))] := hD
          rw [← some_e h] at hfin
          exact hfin 52 _ _ _ dX1_arrive_52 hP hD hS
        · replace h := ifn h q6
          refine lv_aload_n hx hb dX1_arrive_37 rfl (lv_at hl 0 rfl) ?_
          refine lv_dload_n hx hb dX1_arrive_38 rfl (lv_at hl 1 rfl) ?_
          refine va_put (D := D) (ci := 3) (v := .double p1) (ty := .double) (C := RX1) (T := TX1) (N := 5) hx hb hts mc_X1_arrive_X1 tyX1 tyX1_ok nmX1 hown hK hP hD hS 0 rfl rfl 4 (by decide) (hts _ mf_X1_arrive_46) (fun _ h9 => h9) rfl (tyX1_ok 4 (by decide)) rfl rfl (Nat.le_of_ble_eq_true rfl) dX1_arrive_39 (fun H locs hP hD hS => ?_)
          have hP : va_P D vwCl [(a_t, .inr (3, [.ref a_t_ray, .ref a_t_cuts, .int c_t_came, .double c_t_lowest, .double p1]))] H := hP
          have hD : va_D A [(a_t, .inr (3, [.ref a_t_ray, .ref a_t_cuts, .int c_t_came, .double c_t_lowest, .double p1]))] := hD
          refine lv_aload_n hx hb dX1_arrive_42 rfl (lv_at hl 0 rfl) ?_
          refine lv_dup hx hb dX1_arrive_43 rfl ?_
          refine va_get (D := D) (ci := 3) (v := .int c_t_came) (C := RX1) (T := TX1) (N := 5) hx hb hts mc_X1_arrive_X1 hown hK hP 0 rfl rfl 2 (by decide) (hts _ mf_X1_arrive_22) (fun _ h9 => h9) rfl dX1_arrive_44 ?_
          refine lv_iconst (v := (1 : Int32)) hx hb dX1_arrive_47 (by decide) ?_
          refine lv_iadd hx hb dX1_arrive_48 ?_
          refine va_put (D := D) (ci := 3) (v := .int (c_t_came + (1 : Int32))) (ty := .int) (C := RX1) (T := TX1) (N := 5) hx hb hts mc_X1_arrive_X1 tyX1 tyX1_ok nmX1 hown hK hP hD hS 0 rfl rfl 2 (by decide) (hts _ mf_X1_arrive_22) (fun _ h9 => h9) rfl (tyX1_ok 2 (by decide)) rfl rfl (Nat.le_of_ble_eq_true rfl) dX1_arrive_49 (fun H locs hP hD hS => ?_)
          have hP : va_P D vwCl [(a_t, .inr (3, [.ref a_t_ray, .ref a_t_cuts, .int (c_t_came + (1 : Int32)), .double c_t_lowest, .double p1]))] H := hP
          have hD : va_D A [(a_t, .inr (3, [.ref a_t_ray, .ref a_t_cuts, .int (c_t_came + (1 : Int32)), .double c_t_lowest, .double p1]))] := hD
          rw [← some_e h] at hfin
          exact hfin 52 _ _ _ dX1_arrive_52 hP hD hS
    · replace h := ifn h q4
      refine lv_aload_n hx hb dX1_arrive_16 rfl (lv_at hl 0 rfl) ?_
      refine lv_dload_n hx hb dX1_arrive_17 rfl (lv_at hl 1 rfl) ?_
      refine va_put (D := D) (ci := 3) (v := .double p1) (ty := .double) (C := RX1) (T := TX1) (N := 5) hx hb hts mc_X1_arrive_X1 tyX1 tyX1_ok nmX1 hown hK hP hD hS 0 rfl rfl 3 (by decide) (hts _ mf_X1_arrive_43) (fun _ h9 => h9) rfl (tyX1_ok 3 (by decide)) rfl rfl (Nat.le_of_ble_eq_true rfl) dX1_arrive_18 (fun H locs hP hD hS => ?_)
      have hP : va_P D vwCl [(a_t, .inr (3, [.ref a_t_ray, .ref a_t_cuts, .int c_t_came, .double p1, .double c_t_highest]))] H := hP
      have hD : va_D A [(a_t, .inr (3, [.ref a_t_ray, .ref a_t_cuts, .int c_t_came, .double p1, .double c_t_highest]))] := hD
      refine lv_aload_n hx hb dX1_arrive_21 rfl (lv_at hl 0 rfl) ?_
      refine va_get (D := D) (ci := 3) (v := .int c_t_came) (C := RX1) (T := TX1) (N := 5) hx hb hts mc_X1_arrive_X1 hown hK hP 0 rfl rfl 2 (by decide) (hts _ mf_X1_arrive_22) (fun _ h9 => h9) rfl dX1_arrive_22 ?_
      refine lv_if_eq (tgt := 37) hx hb dX1_arrive_25 (by decide) (fun q7 => ?_) (fun q7 => ?_)
      · replace h := ifp h q7
        refine lv_aload_n hx hb dX1_arrive_37 rfl (lv_at hl 0 rfl) ?_
        refine lv_dload_n hx hb dX1_arrive_38 rfl (lv_at hl 1 rfl) ?_
        refine va_put (D := D) (ci := 3) (v := .double p1) (ty := .double) (C := RX1) (T := TX1) (N := 5) hx hb hts mc_X1_arrive_X1 tyX1 tyX1_ok nmX1 hown hK hP hD hS 0 rfl rfl 4 (by decide) (hts _ mf_X1_arrive_46) (fun _ h9 => h9) rfl (tyX1_ok 4 (by decide)) rfl rfl (Nat.le_of_ble_eq_true rfl) dX1_arrive_39 (fun H locs hP hD hS => ?_)
        have hP : va_P D vwCl [(a_t, .inr (3, [.ref a_t_ray, .ref a_t_cuts, .int c_t_came, .double p1, .double p1]))] H := hP
        have hD : va_D A [(a_t, .inr (3, [.ref a_t_ray, .ref a_t_cuts, .int c_t_came, .double p1, .double p1]))] := hD
        refine lv_aload_n hx hb dX1_arrive_42 rfl (lv_at hl 0 rfl) ?_
        refine lv_dup hx hb dX1_arrive_43 rfl ?_
        refine va_get (D := D) (ci := 3) (v := .int c_t_came) (C := RX1) (T := TX1) (N := 5) hx hb hts mc_X1_arrive_X1 hown hK hP 0 rfl rfl 2 (by decide) (hts _ mf_X1_arrive_22) (fun _ h9 => h9) rfl dX1_arrive_44 ?_
        refine lv_iconst (v := (1 : Int32)) hx hb dX1_arrive_47 (by decide) ?_
        refine lv_iadd hx hb dX1_arrive_48 ?_
        refine va_put (D := D) (ci := 3) (v := .int (c_t_came + (1 : Int32))) (ty := .int) (C := RX1) (T := TX1) (N := 5) hx hb hts mc_X1_arrive_X1 tyX1 tyX1_ok nmX1 hown hK hP hD hS 0 rfl rfl 2 (by decide) (hts _ mf_X1_arrive_22) (fun _ h9 => h9) rfl (tyX1_ok 2 (by decide)) rfl rfl (Nat.le_of_ble_eq_true rfl) dX1_arrive_49 (fun H locs hP hD hS => ?_)
        have hP : va_P D vwCl [(a_t, .inr (3, [.ref a_t_ray, .ref a_t_cuts, .int (c_t_came + (1 : Int32)), .double p1, .double p1]))] H := hP
        have hD : va_D A [(a_t, .inr (3, [.ref a_t_ray, .ref a_t_cuts, .int (c_t_came + (1 : Int32)), .double p1, .double p1]))] := hD
        rw [← some_e h] at hfin
        exact hfin 52 _ _ _ dX1_arrive_52 hP hD hS
      · replace h := ifn h q7
        refine lv_dload_n hx hb dX1_arrive_28 rfl (lv_at hl 1 rfl) ?_
        refine lv_aload_n hx hb dX1_arrive_29 rfl (lv_at hl 0 rfl) ?_
        refine va_get (D := D) (ci := 3) (v := .double c_t_highest) (C := RX1) (T := TX1) (N := 5) hx hb hts mc_X1_arrive_X1 hown hK hP 0 rfl rfl 4 (by decide) (hts _ mf_X1_arrive_46) (fun _ h9 => h9) rfl dX1_arrive_30 ?_
        refine lv_dcmp hx hb dX1_arrive_33 ?_
        refine lv_if_le (tgt := 42) hx hb dX1_arrive_34 (by decide) (fun q8 => ?_) (fun q8 => ?_)
        · replace h := ifp h q8
          refine lv_aload_n hx hb dX1_arrive_42 rfl (lv_at hl 0 rfl) ?_
          refine lv_dup hx hb dX1_arrive_43 rfl ?_
          refine va_get (D := D) (ci := 3) (v := .int c_t_came) (C := RX1) (T := TX1) (N := 5) hx hb hts mc_X1_arrive_X1 hown hK hP 0 rfl rfl 2 (by decide) (hts _ mf_X1_arrive_22) (fun _ h9 => h9) rfl dX1_arrive_44 ?_
          refine lv_iconst (v := (1 : Int32)) hx hb dX1_arrive_47 (by decide) ?_
          refine lv_iadd hx hb dX1_arrive_48 ?_
          refine va_put (D := D) (ci := 3) (v := .int (c_t_came + (1 : Int32))) (ty := .int) (C := RX1) (T := TX1) (N := 5) hx hb hts mc_X1_arrive_X1 tyX1 tyX1_ok nmX1 hown hK hP hD hS 0 rfl rfl 2 (by decide) (hts _ mf_X1_arrive_22) (fun _ h9 => h9) rfl (tyX1_ok 2 (by decide)) rfl rfl (Nat.le_of_ble_eq_true rfl) dX1_arrive_49 (fun H locs hP hD hS => ?_)
          have hP : va_P D vwCl [(a_t, .inr (3, [.ref a_t_ray, .ref a_t_cuts, .int (c_t_came + (1 : Int32)), .double p1, .double c_t_highest]))] H := hP
          have hD : va_D A [(a_t, .inr (3, [.ref a_t_ray, .ref a_t_cuts, .int (c_t_came + (1 : Int32)), .double p1, .double c_t_highest]))] := hD
          rw [← some_e h] at hfin
          exact hfin 52 _ _ _ dX1_arrive_52 hP hD hS
        · replace h := ifn h q8
          refine lv_aload_n hx hb dX1_arrive_37 rfl (lv_at hl 0 rfl) ?_
          refine lv_dload_n hx hb dX1_arrive_38 rfl (lv_at hl 1 rfl) ?_
          refine va_put (D := D) (ci := 3) (v := .double p1) (ty := .double) (C := RX1) (T := TX1) (N := 5) hx hb hts mc_X1_arrive_X1 tyX1 tyX1_ok nmX1 hown hK hP hD hS 0 rfl rfl 4 (by decide) (hts _ mf_X1_arrive_46) (fun _ h9 => h9) rfl (tyX1_ok 4 (by decide)) rfl rfl (Nat.le_of_ble_eq_true rfl) dX1_arrive_39 (fun H locs hP hD hS => ?_)
          have hP : va_P D vwCl [(a_t, .inr (3, [.ref a_t_ray, .ref a_t_cuts, .int c_t_came, .double p1, .double p1]))] H := hP
          have hD : va_D A [(a_t, .inr (3, [.ref a_t_ray, .ref a_t_cuts, .int c_t_came, .double p1, .double p1]))] := hD
          refine lv_aload_n hx hb dX1_arrive_42 rfl (lv_at hl 0 rfl) ?_
          refine lv_dup hx hb dX1_arrive_43 rfl ?_
          refine va_get (D := D) (ci := 3) (v := .int c_t_came) (C := RX1) (T := TX1) (N := 5) hx hb hts mc_X1_arrive_X1 hown hK hP 0 rfl rfl 2 (by decide) (hts _ mf_X1_arrive_22) (fun _ h9 => h9) rfl dX1_arrive_44 ?_
          refine lv_iconst (v := (1 : Int32)) hx hb dX1_arrive_47 (by decide) ?_
          refine lv_iadd hx hb dX1_arrive_48 ?_
          refine va_put (D := D) (ci := 3) (v := .int (c_t_came + (1 : Int32))) (ty := .int) (C := RX1) (T := TX1) (N := 5) hx hb hts mc_X1_arrive_X1 tyX1 tyX1_ok nmX1 hown hK hP hD hS 0 rfl rfl 2 (by decide) (hts _ mf_X1_arrive_22) (fun _ h9 => h9) rfl (tyX1_ok 2 (by decide)) rfl rfl (Nat.le_of_ble_eq_true rfl) dX1_arrive_49 (fun H locs hP hD hS => ?_)
          have hP : va_P D vwCl [(a_t, .inr (3, [.ref a_t_ray, .ref a_t_cuts, .int (c_t_came + (1 : Int32)), .double p1, .double p1]))] H := hP
          have hD : va_D A [(a_t, .inr (3, [.ref a_t_ray, .ref a_t_cuts, .int (c_t_came + (1 : Int32)), .double p1, .double p1]))] := hD
          rw [← some_e h] at hfin
          exact hfin 52 _ _ _ dX1_arrive_52 hP hD hS
theorem mc_X1_passed_X1 : ∀ w ∈ wsX10, w ∈ wsX1_passed := by decide +kernel
theorem mf_X1_passed_18 : Cond.fieldLink RX1 18 "Lensbench$Fan" "cuts" "[I" ∈ wsX1_passed := by decide +kernel
abbrev rm_X1_passed : Room := { frames := 0, cells := 0, slots := 0, locals := 0 }
set_option maxHeartbeats 4000000 in
set_option maxRecDepth 100000 in
theorem m_X1_passed (l : Launch) (D : va_G) (cI cD cB : ClassId) (a_t : Nat) (a_t_ray : Nat) (a_t_cuts : Nat) (p1 : Int32) (c_t_came : Int32) (c_t_lowest : UInt64) (c_t_highest : UInt64) (c_t_cuts : Nat → Int32) (R : Int32) (h : f_X1_passed p1 c_t_cuts = some R) : Ci l yX1_passed wsX1_passed rm_X1_passed D (TT cI cD cB) [.ref a_t, .int p1] [(a_t, .inr (3, [.ref a_t_ray, .ref a_t_cuts, .int c_t_came, .double c_t_lowest, .double c_t_highest])), (a_t_cuts, .inl (cI, 8, .inl c_t_cuts))] [(a_t, .inr (3, [.ref a_t_ray, .ref a_t_cuts, .int c_t_came, .double c_t_lowest, .double c_t_highest])), (a_t_cuts, .inl (cI, 8, .inl c_t_cuts))] R 0 0 := by
  unfold f_X1_passed at h
  refine st_i (cc := cX1_passed) (maxL := 4) (by decide) rfl (Nat.le_of_ble_eq_true rfl) (fun p e s m av below meth c A Q ls hx hb hml hts hown hA hK hNM hZ hP hD hS hl hfin => ?_)
  have hown : s.vm.findClass RX1 = some m.cls := hown
  have hl : lv_has ls 4 [(0, .ref a_t), (1, .int p1)] := hl
  refine lv_bipush (v := (21 : Int32)) hx hb dX1_passed_0 (by decide) ?_
  refine lv_istore_n (lv' := [(2, .int (21 : Int32)), (0, .ref a_t), (1, .int p1)]) hx hb dX1_passed_2 rfl hl (by decide) rfl (fun ls hl => ?_)
  refine lv_iconst (v := (0 : Int32)) hx hb dX1_passed_3 (by decide) ?_
  refine lv_istore_n (lv' := [(3, .int (0 : Int32)), (2, .int (21 : Int32)), (0, .ref a_t), (1, .int p1)]) hx hb dX1_passed_4 rfl hl (by decide) rfl (fun ls hl => ?_)
  have LOOP1 : ∀ (n1 : Nat) (s1 : Int32 × Int32) (H : Heap) (locs : List Loc) (ls : Array Slot), va_P D vwCl [(a_t, .inr (3, [.ref a_t_ray, .ref a_t_cuts, .int c_t_came, .double c_t_lowest, .double c_t_highest])), (a_t_cuts, .inl (cI, 8, .inl c_t_cuts))] H → va_D A [(a_t, .inr (3, [.ref a_t_ray, .ref a_t_cuts, .int c_t_came, .double c_t_lowest, .double c_t_highest])), (a_t_cuts, .inl (cI, 8, .inl c_t_cuts))] → va_S A s.heap H locs → lv_has ls 4 [(3, .int s1.1), (2, .int s1.2), (0, .ref a_t), (1, .int p1)] → lp (f_X1_passed_b1 p1 c_t_cuts) n1 s1 = some R → W p l e rm_X1_passed s m av below meth c H locs 0 0 Q (F0 m 5 ls []) := by
    intro n1
    induction n1 with
    | zero => intro s1 H locs ls hP hD hS hl h; exact lp_0 h
    | succ n1 ih1 =>
      intro s1 H locs ls hP hD hS hl h
      replace h := lp_s h
      unfold f_X1_passed_b1 at h
      refine lv_iload_n hx hb dX1_passed_5 rfl (lv_at hl 0 rfl) ?_
      refine lv_iload_n hx hb dX1_passed_6 rfl (lv_at hl 3 rfl) ?_
      refine lv_icmp_gt (tgt := 31) hx hb dX1_passed_7 (by decide) (fun q1 => ?_) (fun q1 => ?_)
      · replace h := ifp h q1
        refine lv_iload_n hx hb dX1_passed_31 rfl (lv_at hl 1 rfl) ?_
        rw [← some_e h] at hfin
        exact hfin 32 _ _ _ dX1_passed_32 rfl hP hD hS
      · replace h := ifn h q1
        refine lv_iload_n hx hb dX1_passed_10 rfl (lv_at hl 0 rfl) ?_
        refine lv_bipush (v := (8 : Int32)) hx hb dX1_passed_11 (by decide) ?_
        refine lv_icmp_ge (tgt := 31) hx hb dX1_passed_13 (by decide) (fun q2 => ?_) (fun q2 => ?_)
        · replace h := ifp h q2
          refine lv_iload_n hx hb dX1_passed_31 rfl (lv_at hl 1 rfl) ?_
          rw [← some_e h] at hfin
          exact hfin 32 _ _ _ dX1_passed_32 rfl hP hD hS
        · replace h := ifn h q2
          refine lv_iload_n hx hb dX1_passed_16 rfl (lv_at hl 1 rfl) ?_
          refine lv_aload_n hx hb dX1_passed_17 rfl (lv_at hl 2 rfl) ?_
          refine va_get (D := D) (ci := 3) (v := .ref a_t_cuts) (C := RX1) (T := TX1) (N := 5) hx hb hts mc_X1_passed_X1 hown hK hP 0 rfl rfl 1 (by decide) (hts _ mf_X1_passed_18) (fun _ h9 => h9) rfl dX1_passed_18 ?_
          refine lv_iload_n hx hb dX1_passed_21 rfl (lv_at hl 0 rfl) ?_
          obtain ⟨g3, h⟩ := gd_e h
          refine va_iald hx hb hK hP 1 0 rfl rfl (vin_in g3) dX1_passed_22 ?_
          refine lv_isub hx hb dX1_passed_23 ?_
          refine lv_istore_n (lv' := [(2, .int (s1.2 - (c_t_cuts (s1.1).toNatClampNeg))), (3, .int s1.1), (0, .ref a_t), (1, .int p1)]) hx hb dX1_passed_24 rfl hl (by decide) rfl (fun ls hl => ?_)
          refine lv_iinc (v := (s1.1 + (1 : Int32))) (lv' := [(3, .int (s1.1 + (1 : Int32))), (2, .int (s1.2 - (c_t_cuts (s1.1).toNatClampNeg))), (0, .ref a_t), (1, .int p1)]) hx hb dX1_passed_25 hl (k := 1) rfl rfl (by decide) rfl (fun ls hl => ?_)
          refine lv_goto (tgt := 5) hx hb dX1_passed_28 (by decide) ?_
          exact ih1 ((s1.1 + (1 : Int32)), (s1.2 - (c_t_cuts (s1.1).toNatClampNeg))) _ _ _ hP hD hS (lv_sub hl [0, 1, 2, 3] rfl) h
  exact LOOP1 1000 ((0 : Int32), (21 : Int32)) _ _ _ hP hD hS hl h
abbrev rm_X6_unsigned : Room := { frames := 0, cells := 0, slots := 0, locals := 0 }
set_option maxHeartbeats 4000000 in
set_option maxRecDepth 100000 in
theorem m_X6_unsigned (l : Launch) (D : va_G) (cI cD cB : ClassId) (p1 : UInt64) (R : UInt64) (h : f_X6_unsigned p1 = some R) : Cd l yX6_unsigned wsX6_unsigned rm_X6_unsigned D (TT cI cD cB) [.double p1] [] [] R 0 0 := by
  unfold f_X6_unsigned at h
  refine st_d (cc := cX6_unsigned) (maxL := 2) (by decide) rfl (Nat.le_of_ble_eq_true rfl) (fun p e s m av below meth c A Q ls hx hb hml hts hown hA hK hNM hZ hP hD hS hl hfin => ?_)
  have hown : s.vm.findClass RX6 = some m.cls := hown
  have hl : lv_has ls 2 [(0, .double p1)] := hl
  refine lv_dload_n hx hb dX6_unsigned_0 rfl (lv_at hl 0 rfl) ?_
  refine lv_dconst0 hx hb dX6_unsigned_1 ?_
  refine lv_dcmp hx hb dX6_unsigned_2 ?_
  refine lv_if_ge (tgt := 11) hx hb dX6_unsigned_3 (by decide) (fun q1 => ?_) (fun q1 => ?_)
  · replace h := ifp h q1
    refine lv_dload_n hx hb dX6_unsigned_11 rfl (lv_at hl 0 rfl) ?_
    rw [← some_e h] at hfin
    exact hfin 12 _ _ _ dX6_unsigned_12 hP hD hS
  · replace h := ifn h q1
    refine lv_dload_n hx hb dX6_unsigned_6 rfl (lv_at hl 0 rfl) ?_
    refine lv_dneg hx hb dX6_unsigned_7 ?_
    refine lv_goto (tgt := 12) hx hb dX6_unsigned_8 (by decide) ?_
    rw [← some_e h] at hfin
    exact hfin 12 _ _ _ dX6_unsigned_12 hP hD hS
theorem mc_X3_run_X3 : ∀ w ∈ wsX30, w ∈ wsX3_run := by decide +kernel
theorem mc_X3_run_X5 : ∀ w ∈ wsX50, w ∈ wsX3_run := by decide +kernel
theorem mf_X3_run_15 : Cond.fieldLink RX3 15 "Lensbench$Ray" "u" "D" ∈ wsX3_run := by decide +kernel
theorem mf_X3_run_18 : Cond.fieldLink RX3 18 "Lensbench$Ray" "cutAt" "I" ∈ wsX3_run := by decide +kernel
theorem mf_X3_run_22 : Cond.fieldLink RX3 22 "Lensbench$Train" "start" "I" ∈ wsX3_run := by decide +kernel
theorem mf_X3_run_27 : Cond.fieldLink RX3 27 "Lensbench$Train" "size" "I" ∈ wsX3_run := by decide +kernel
theorem mf_X3_run_30 : Cond.fieldLink RX3 30 "Lensbench$Train" "places" "[I" ∈ wsX3_run := by decide +kernel
theorem mf_X3_run_38 : Cond.fieldLink RX3 38 "Lensbench$Train" "halves" "[I" ∈ wsX3_run := by decide +kernel
theorem mf_X3_run_41 : Cond.fieldLink RX3 41 "Lensbench$Train" "bends" "[D" ∈ wsX3_run := by decide +kernel
theorem mf_X3_run_45 : Cond.fieldLink RX3 45 "Lensbench$Train" "end" "I" ∈ wsX3_run := by decide +kernel
theorem mf_X3_run_9 : Cond.fieldLink RX3 9 "Lensbench$Ray" "h" "D" ∈ wsX3_run := by decide +kernel
theorem mi_X3_run_X6_unsigned : Cond.initialized RX6 ∈ wsX3_run := by decide +kernel
theorem ms_X3_run_X6_unsigned : Cond.static yX6_unsigned ∈ wsX3_run := by decide +kernel
abbrev rm_X3_run : Room := { frames := 1, cells := 0, slots := 0, locals := 21 }
set_option maxHeartbeats 4000000 in
set_option maxRecDepth 100000 in
theorem m_X3_run (l : Launch) (D : va_G) (cI cD cB : ClassId) (a_t : Nat) (a_p1 : Nat) (a_p1_numbers : Nat) (a_p1_places : Nat) (a_p1_halves : Nat) (a_p1_bends : Nat) (p2 : UInt64) (p3 : UInt64) (c_t_h : UInt64) (c_t_u : UInt64) (c_t_cutAt : Int32) (c_p1_size : Int32) (c_p1_start : Int32) (c_p1_end : Int32) (c_p1_places : Nat → Int32) (c_p1_halves : Nat → Int32) (c_p1_bends : Nat → UInt64) (R : UInt64 × UInt64 × Int32) (h : f_X3_run p2 p3 c_p1_size c_p1_start c_p1_end c_p1_places c_p1_halves c_p1_bends = some R) : Cv l yX3_run wsX3_run rm_X3_run D (TT cI cD cB) [.ref a_t, .ref a_p1, .double p2, .double p3] [(a_t, .inr (5, [.double c_t_h, .double c_t_u, .int c_t_cutAt])), (a_p1, .inr (7, [.ref a_p1_numbers, .ref a_p1_places, .ref a_p1_halves, .ref a_p1_bends, .int c_p1_size, .int c_p1_start, .int c_p1_end])), (a_p1_places, .inl (cI, 8, .inl c_p1_places)), (a_p1_halves, .inl (cI, 8, .inl c_p1_halves)), (a_p1_bends, .inl (cD, 8, .inr (.inr (.inr (.inl c_p1_bends)))))] [(a_t, .inr (5, [.double R.1, .double R.2.1, .int R.2.2])), (a_p1, .inr (7, [.ref a_p1_numbers, .ref a_p1_places, .ref a_p1_halves, .ref a_p1_bends, .int c_p1_size, .int c_p1_start, .int c_p1_end])), (a_p1_places, .inl (cI, 8, .inl c_p1_places)), (a_p1_halves, .inl (cI, 8, .inl c_p1_halves)), (a_p1_bends, .inl (cD, 8, .inr (.inr (.inr (.inl c_p1_bends)))))] 0 0 := by
  unfold f_X3_run at h
  refine st_v (cc := cX3_run) (maxL := 8) (by decide) rfl (Nat.le_of_ble_eq_true rfl) (fun p e s m av below meth c A Q ls hx hb hml hts hown hA hK hNM hZ hP hD hS hl hfin => ?_)
  have hown : s.vm.findClass RX3 = some m.cls := hown
  have hl : lv_has ls 8 [(0, .ref a_t), (1, .ref a_p1), (2, .double p2), (4, .double p3)] := hl
  refine lv_aload_n hx hb dX3_run_0 rfl (lv_at hl 0 rfl) ?_
  refine lv_dload_n hx hb dX3_run_1 rfl (lv_at hl 2 rfl) ?_
  refine va_put (D := D) (ci := 5) (v := .double p2) (ty := .double) (C := RX3) (T := TX3) (N := 3) hx hb hts mc_X3_run_X3 tyX3 tyX3_ok nmX3 hown hK hP hD hS 0 rfl rfl 0 (by decide) (hts _ mf_X3_run_9) (fun _ h9 => h9) rfl (tyX3_ok 0 (by decide)) rfl rfl (Nat.le_of_ble_eq_true rfl) dX3_run_2 (fun H locs hP hD hS => ?_)
  have hP : va_P D vwCl [(a_t, .inr (5, [.double p2, .double c_t_u, .int c_t_cutAt])), (a_p1, .inr (7, [.ref a_p1_numbers, .ref a_p1_places, .ref a_p1_halves, .ref a_p1_bends, .int c_p1_size, .int c_p1_start, .int c_p1_end])), (a_p1_places, .inl (cI, 8, .inl c_p1_places)), (a_p1_halves, .inl (cI, 8, .inl c_p1_halves)), (a_p1_bends, .inl (cD, 8, .inr (.inr (.inr (.inl c_p1_bends)))))] H := hP
  have hD : va_D A [(a_t, .inr (5, [.double p2, .double c_t_u, .int c_t_cutAt])), (a_p1, .inr (7, [.ref a_p1_numbers, .ref a_p1_places, .ref a_p1_halves, .ref a_p1_bends, .int c_p1_size, .int c_p1_start, .int c_p1_end])), (a_p1_places, .inl (cI, 8, .inl c_p1_places)), (a_p1_halves, .inl (cI, 8, .inl c_p1_halves)), (a_p1_bends, .inl (cD, 8, .inr (.inr (.inr (.inl c_p1_bends)))))] := hD
  refine lv_aload_n hx hb dX3_run_5 rfl (lv_at hl 0 rfl) ?_
  refine lv_dload hx hb dX3_run_6 (lv_at hl 3 rfl) ?_
  refine va_put (D := D) (ci := 5) (v := .double p3) (ty := .double) (C := RX3) (T := TX3) (N := 3) hx hb hts mc_X3_run_X3 tyX3 tyX3_ok nmX3 hown hK hP hD hS 0 rfl rfl 1 (by decide) (hts _ mf_X3_run_15) (fun _ h9 => h9) rfl (tyX3_ok 1 (by decide)) rfl rfl (Nat.le_of_ble_eq_true rfl) dX3_run_8 (fun H locs hP hD hS => ?_)
  have hP : va_P D vwCl [(a_t, .inr (5, [.double p2, .double p3, .int c_t_cutAt])), (a_p1, .inr (7, [.ref a_p1_numbers, .ref a_p1_places, .ref a_p1_halves, .ref a_p1_bends, .int c_p1_size, .int c_p1_start, .int c_p1_end])), (a_p1_places, .inl (cI, 8, .inl c_p1_places)), (a_p1_halves, .inl (cI, 8, .inl c_p1_halves)), (a_p1_bends, .inl (cD, 8, .inr (.inr (.inr (.inl c_p1_bends)))))] H := hP
  have hD : va_D A [(a_t, .inr (5, [.double p2, .double p3, .int c_t_cutAt])), (a_p1, .inr (7, [.ref a_p1_numbers, .ref a_p1_places, .ref a_p1_halves, .ref a_p1_bends, .int c_p1_size, .int c_p1_start, .int c_p1_end])), (a_p1_places, .inl (cI, 8, .inl c_p1_places)), (a_p1_halves, .inl (cI, 8, .inl c_p1_halves)), (a_p1_bends, .inl (cD, 8, .inr (.inr (.inr (.inl c_p1_bends)))))] := hD
  refine lv_aload_n hx hb dX3_run_11 rfl (lv_at hl 0 rfl) ?_
  refine lv_iconst (v := (-1 : Int32)) hx hb dX3_run_12 (by decide) ?_
  refine va_put (D := D) (ci := 5) (v := .int (-1 : Int32)) (ty := .int) (C := RX3) (T := TX3) (N := 3) hx hb hts mc_X3_run_X3 tyX3 tyX3_ok nmX3 hown hK hP hD hS 0 rfl rfl 2 (by decide) (hts _ mf_X3_run_18) (fun _ h9 => h9) rfl (tyX3_ok 2 (by decide)) rfl rfl (Nat.le_of_ble_eq_true rfl) dX3_run_13 (fun H locs hP hD hS => ?_)
  have hP : va_P D vwCl [(a_t, .inr (5, [.double p2, .double p3, .int (-1 : Int32)])), (a_p1, .inr (7, [.ref a_p1_numbers, .ref a_p1_places, .ref a_p1_halves, .ref a_p1_bends, .int c_p1_size, .int c_p1_start, .int c_p1_end])), (a_p1_places, .inl (cI, 8, .inl c_p1_places)), (a_p1_halves, .inl (cI, 8, .inl c_p1_halves)), (a_p1_bends, .inl (cD, 8, .inr (.inr (.inr (.inl c_p1_bends)))))] H := hP
  have hD : va_D A [(a_t, .inr (5, [.double p2, .double p3, .int (-1 : Int32)])), (a_p1, .inr (7, [.ref a_p1_numbers, .ref a_p1_places, .ref a_p1_halves, .ref a_p1_bends, .int c_p1_size, .int c_p1_start, .int c_p1_end])), (a_p1_places, .inl (cI, 8, .inl c_p1_places)), (a_p1_halves, .inl (cI, 8, .inl c_p1_halves)), (a_p1_bends, .inl (cD, 8, .inr (.inr (.inr (.inl c_p1_bends)))))] := hD
  refine lv_aload_n hx hb dX3_run_16 rfl (lv_at hl 1 rfl) ?_
  refine va_get (D := D) (ci := 7) (v := .int c_p1_start) (C := RX5) (T := TX5) (N := 7) hx hb hts mc_X3_run_X5 hown hK hP 1 rfl rfl 5 (by decide) (hts _ mf_X3_run_22) (fun _ h9 => h9) rfl dX3_run_17 ?_
  refine lv_istore (lv' := [(6, .int c_p1_start), (0, .ref a_t), (1, .ref a_p1), (2, .double p2), (4, .double p3)]) hx hb dX3_run_20 hl (by decide) rfl (fun ls hl => ?_)
  refine lv_iconst (v := (0 : Int32)) hx hb dX3_run_22 (by decide) ?_
  refine lv_istore (lv' := [(7, .int (0 : Int32)), (6, .int c_p1_start), (0, .ref a_t), (1, .ref a_p1), (2, .double p2), (4, .double p3)]) hx hb dX3_run_23 hl (by decide) rfl (fun ls hl => ?_)
  have LOOP1 : ∀ (n1 : Nat) (s1 : Int32 × Int32 × UInt64 × UInt64) (H : Heap) (locs : List Loc) (ls : Array Slot), va_P D vwCl [(a_t, .inr (5, [.double s1.2.2.1, .double s1.2.2.2, .int (-1 : Int32)])), (a_p1, .inr (7, [.ref a_p1_numbers, .ref a_p1_places, .ref a_p1_halves, .ref a_p1_bends, .int c_p1_size, .int c_p1_start, .int c_p1_end])), (a_p1_places, .inl (cI, 8, .inl c_p1_places)), (a_p1_halves, .inl (cI, 8, .inl c_p1_halves)), (a_p1_bends, .inl (cD, 8, .inr (.inr (.inr (.inl c_p1_bends)))))] H → va_D A [(a_t, .inr (5, [.double s1.2.2.1, .double s1.2.2.2, .int (-1 : Int32)])), (a_p1, .inr (7, [.ref a_p1_numbers, .ref a_p1_places, .ref a_p1_halves, .ref a_p1_bends, .int c_p1_size, .int c_p1_start, .int c_p1_end])), (a_p1_places, .inl (cI, 8, .inl c_p1_places)), (a_p1_halves, .inl (cI, 8, .inl c_p1_halves)), (a_p1_bends, .inl (cD, 8, .inr (.inr (.inr (.inl c_p1_bends)))))] → va_S A s.heap H locs → lv_has ls 8 [(7, .int s1.1), (6, .int s1.2.1), (0, .ref a_t), (1, .ref a_p1), (2, .double p2), (4, .double p3)] → lp (f_X3_run_b1 c_p1_size c_p1_end c_p1_places c_p1_halves c_p1_bends) n1 s1 = some R → W p l e rm_X3_run s m av below meth c H locs 0 0 Q (F0 m 25 ls []) := by
    intro n1
    induction n1 with
    | zero => intro s1 H locs ls hP hD hS hl h; exact lp_0 h
    | succ n1 ih1 =>
      intro s1 H locs ls hP hD hS hl h
      replace h := lp_s h
      unfold f_X3_run_b1 at h
      refine lv_iload hx hb dX3_run_25 (lv_at hl 0 rfl) ?_
      refine lv_aload_n hx hb dX3_run_27 rfl (lv_at hl 3 rfl) ?_
      refine va_get (D := D) (ci := 7) (v := .int c_p1_size) (C := RX5) (T := TX5) (N := 7) hx hb hts mc_X3_run_X5 hown hK hP 1 rfl rfl 4 (by decide) (hts _ mf_X3_run_27) (fun _ h9 => h9) rfl dX3_run_28 ?_
      refine lv_icmp_ge (tgt := 121) hx hb dX3_run_31 (by decide) (fun q1 => ?_) (fun q1 => ?_)
      · replace h := ifp h q1
        refine lv_aload_n hx hb dX3_run_121 rfl (lv_at hl 2 rfl) ?_
        refine lv_aload_n hx hb dX3_run_122 rfl (lv_at hl 2 rfl) ?_
        refine va_get (D := D) (ci := 5) (v := .double s1.2.2.1) (C := RX3) (T := TX3) (N := 3) hx hb hts mc_X3_run_X3 hown hK hP 0 rfl rfl 0 (by decide) (hts _ mf_X3_run_9) (fun _ h9 => h9) rfl dX3_run_123 ?_
        refine lv_aload_n hx hb dX3_run_126 rfl (lv_at hl 2 rfl) ?_
        refine va_get (D := D) (ci := 5) (v := .double s1.2.2.2) (C := RX3) (T := TX3) (N := 3) hx hb hts mc_X3_run_X3 hown hK hP 0 rfl rfl 1 (by decide) (hts _ mf_X3_run_15) (fun _ h9 => h9) rfl dX3_run_127 ?_
        refine lv_aload_n hx hb dX3_run_130 rfl (lv_at hl 3 rfl) ?_
        refine va_get (D := D) (ci := 7) (v := .int c_p1_end) (C := RX5) (T := TX5) (N := 7) hx hb hts mc_X3_run_X5 hown hK hP 1 rfl rfl 6 (by decide) (hts _ mf_X3_run_45) (fun _ h9 => h9) rfl dX3_run_131 ?_
        refine lv_iload hx hb dX3_run_134 (lv_at hl 1 rfl) ?_
        refine lv_isub hx hb dX3_run_136 ?_
        refine lv_i2d hx hb dX3_run_137 ?_
        obtain ⟨g2, h⟩ := gd_e h
        refine lv_dmul hx hb dX3_run_138 (n64_n g2) ?_
        obtain ⟨g3, h⟩ := gd_e h
        refine lv_dadd hx hb dX3_run_139 (n64_n g3) ?_
        refine va_put (D := D) (ci := 5) (v := .double (FP.dadd s1.2.2.1 (FP.dmul s1.2.2.2 (FP.i2d (c_p1_end - s1.2.1))))) (ty := .double) (C := RX3) (T := TX3) (N := 3) hx hb hts mc_X3_run_X3 tyX3 tyX3_ok nmX3 hown hK hP hD hS 0 rfl rfl 0 (by decide) (hts _ mf_X3_run_9) (fun _ h9 => h9) rfl (tyX3_ok 0 (by decide)) rfl rfl (Nat.le_of_ble_eq_true rfl) dX3_run_140 (fun H locs hP hD hS => ?_)
        have hP : va_P D vwCl [(a_t, .inr (5, [.double (FP.dadd s1.2.2.1 (FP.dmul s1.2.2.2 (FP.i2d (c_p1_end - s1.2.1)))), .double s1.2.2.2, .int (-1 : Int32)])), (a_p1, .inr (7, [.ref a_p1_numbers, .ref a_p1_places, .ref a_p1_halves, .ref a_p1_bends, .int c_p1_size, .int c_p1_start, .int c_p1_end])), (a_p1_places, .inl (cI, 8, .inl c_p1_places)), (a_p1_halves, .inl (cI, 8, .inl c_p1_halves)), (a_p1_bends, .inl (cD, 8, .inr (.inr (.inr (.inl c_p1_bends)))))] H := hP
        have hD : va_D A [(a_t, .inr (5, [.double (FP.dadd s1.2.2.1 (FP.dmul s1.2.2.2 (FP.i2d (c_p1_end - s1.2.1)))), .double s1.2.2.2, .int (-1 : Int32)])), (a_p1, .inr (7, [.ref a_p1_numbers, .ref a_p1_places, .ref a_p1_halves, .ref a_p1_bends, .int c_p1_size, .int c_p1_start, .int c_p1_end])), (a_p1_places, .inl (cI, 8, .inl c_p1_places)), (a_p1_halves, .inl (cI, 8, .inl c_p1_halves)), (a_p1_bends, .inl (cD, 8, .inr (.inr (.inr (.inl c_p1_bends)))))] := hD
        rw [← some_e h] at hfin
        exact hfin 143 _ _ _ dX3_run_143 hP hD hS
      · replace h := ifn h q1
        refine lv_aload_n hx hb dX3_run_34 rfl (lv_at hl 2 rfl) ?_
        refine lv_aload_n hx hb dX3_run_35 rfl (lv_at hl 2 rfl) ?_
        refine va_get (D := D) (ci := 5) (v := .double s1.2.2.1) (C := RX3) (T := TX3) (N := 3) hx hb hts mc_X3_run_X3 hown hK hP 0 rfl rfl 0 (by decide) (hts _ mf_X3_run_9) (fun _ h9 => h9) rfl dX3_run_36 ?_
        refine lv_aload_n hx hb dX3_run_39 rfl (lv_at hl 2 rfl) ?_
        refine va_get (D := D) (ci := 5) (v := .double s1.2.2.2) (C := RX3) (T := TX3) (N := 3) hx hb hts mc_X3_run_X3 hown hK hP 0 rfl rfl 1 (by decide) (hts _ mf_X3_run_15) (fun _ h9 => h9) rfl dX3_run_40 ?_
        refine lv_aload_n hx hb dX3_run_43 rfl (lv_at hl 3 rfl) ?_
        refine va_get (D := D) (ci := 7) (v := .ref a_p1_places) (C := RX5) (T := TX5) (N := 7) hx hb hts mc_X3_run_X5 hown hK hP 1 rfl rfl 1 (by decide) (hts _ mf_X3_run_30) (fun _ h9 => h9) rfl dX3_run_44 ?_
        refine lv_iload hx hb dX3_run_47 (lv_at hl 0 rfl) ?_
        obtain ⟨g4, h⟩ := gd_e h
        refine va_iald hx hb hK hP 2 0 rfl rfl (vin_in g4) dX3_run_49 ?_
        refine lv_iload hx hb dX3_run_50 (lv_at hl 1 rfl) ?_
        refine lv_isub hx hb dX3_run_52 ?_
        refine lv_i2d hx hb dX3_run_53 ?_
        obtain ⟨g5, h⟩ := gd_e h
        refine lv_dmul hx hb dX3_run_54 (n64_n g5) ?_
        obtain ⟨g6, h⟩ := gd_e h
        refine lv_dadd hx hb dX3_run_55 (n64_n g6) ?_
        refine va_put (D := D) (ci := 5) (v := .double (FP.dadd s1.2.2.1 (FP.dmul s1.2.2.2 (FP.i2d ((c_p1_places (s1.1).toNatClampNeg) - s1.2.1))))) (ty := .double) (C := RX3) (T := TX3) (N := 3) hx hb hts mc_X3_run_X3 tyX3 tyX3_ok nmX3 hown hK hP hD hS 0 rfl rfl 0 (by decide) (hts _ mf_X3_run_9) (fun _ h9 => h9) rfl (tyX3_ok 0 (by decide)) rfl rfl (Nat.le_of_ble_eq_true rfl) dX3_run_56 (fun H locs hP hD hS => ?_)
        have hP : va_P D vwCl [(a_t, .inr (5, [.double (FP.dadd s1.2.2.1 (FP.dmul s1.2.2.2 (FP.i2d ((c_p1_places (s1.1).toNatClampNeg) - s1.2.1)))), .double s1.2.2.2, .int (-1 : Int32)])), (a_p1, .inr (7, [.ref a_p1_numbers, .ref a_p1_places, .ref a_p1_halves, .ref a_p1_bends, .int c_p1_size, .int c_p1_start, .int c_p1_end])), (a_p1_places, .inl (cI, 8, .inl c_p1_places)), (a_p1_halves, .inl (cI, 8, .inl c_p1_halves)), (a_p1_bends, .inl (cD, 8, .inr (.inr (.inr (.inl c_p1_bends)))))] H := hP
        have hD : va_D A [(a_t, .inr (5, [.double (FP.dadd s1.2.2.1 (FP.dmul s1.2.2.2 (FP.i2d ((c_p1_places (s1.1).toNatClampNeg) - s1.2.1)))), .double s1.2.2.2, .int (-1 : Int32)])), (a_p1, .inr (7, [.ref a_p1_numbers, .ref a_p1_places, .ref a_p1_halves, .ref a_p1_bends, .int c_p1_size, .int c_p1_start, .int c_p1_end])), (a_p1_places, .inl (cI, 8, .inl c_p1_places)), (a_p1_halves, .inl (cI, 8, .inl c_p1_halves)), (a_p1_bends, .inl (cD, 8, .inr (.inr (.inr (.inl c_p1_bends)))))] := hD
        refine lv_aload_n hx hb dX3_run_59 rfl (lv_at hl 3 rfl) ?_
        refine va_get (D := D) (ci := 7) (v := .ref a_p1_places) (C := RX5) (T := TX5) (N := 7) hx hb hts mc_X3_run_X5 hown hK hP 1 rfl rfl 1 (by decide) (hts _ mf_X3_run_30) (fun _ h9 => h9) rfl dX3_run_60 ?_
        refine lv_iload hx hb dX3_run_63 (lv_at hl 0 rfl) ?_
        obtain ⟨g7, h⟩ := gd_e h
        refine va_iald hx hb hK hP 2 0 rfl rfl (vin_in g7) dX3_run_65 ?_
        refine lv_istore (lv' := [(6, .int (c_p1_places (s1.1).toNatClampNeg)), (7, .int s1.1), (0, .ref a_t), (1, .ref a_p1), (2, .double p2), (4, .double p3)]) hx hb dX3_run_66 hl (by decide) rfl (fun ls hl => ?_)
        refine lv_aload_n hx hb dX3_run_68 rfl (lv_at hl 2 rfl) ?_
        refine va_get (D := D) (ci := 5) (v := .double (FP.dadd s1.2.2.1 (FP.dmul s1.2.2.2 (FP.i2d ((c_p1_places (s1.1).toNatClampNeg) - s1.2.1))))) (C := RX3) (T := TX3) (N := 3) hx hb hts mc_X3_run_X3 hown hK hP 0 rfl rfl 0 (by decide) (hts _ mf_X3_run_9) (fun _ h9 => h9) rfl dX3_run_69 ?_
        obtain ⟨o8, e9, h⟩ := bd_e h
        refine co_d (W0 := []) (wr := [(a_t, .inr (5, [.double (FP.dadd s1.2.2.1 (FP.dmul s1.2.2.2 (FP.i2d ((c_p1_places (s1.1).toNatClampNeg) - s1.2.1)))), .double s1.2.2.2, .int (-1 : Int32)])), (a_p1, .inr (7, [.ref a_p1_numbers, .ref a_p1_places, .ref a_p1_halves, .ref a_p1_bends, .int c_p1_size, .int c_p1_start, .int c_p1_end])), (a_p1_places, .inl (cI, 8, .inl c_p1_places)), (a_p1_halves, .inl (cI, 8, .inl c_p1_halves)), (a_p1_bends, .inl (cD, 8, .inr (.inr (.inr (.inl c_p1_bends)))))]) (W1 := []) (ws2 := [(a_t, .inr (5, [.double (FP.dadd s1.2.2.1 (FP.dmul s1.2.2.2 (FP.i2d ((c_p1_places (s1.1).toNatClampNeg) - s1.2.1)))), .double s1.2.2.2, .int (-1 : Int32)])), (a_p1, .inr (7, [.ref a_p1_numbers, .ref a_p1_places, .ref a_p1_halves, .ref a_p1_bends, .int c_p1_size, .int c_p1_start, .int c_p1_end])), (a_p1_places, .inl (cI, 8, .inl c_p1_places)), (a_p1_halves, .inl (cI, 8, .inl c_p1_halves)), (a_p1_bends, .inl (cD, 8, .inr (.inr (.inr (.inl c_p1_bends)))))]) (va_runSN (own := RX3) (host := "Lensbench") (index := 34) (As := [.double (FP.dadd s1.2.2.1 (FP.dmul s1.2.2.2 (FP.i2d ((c_p1_places (s1.1).toNatClampNeg) - s1.2.1))))]) (rest := []) ⟨hx, hb, hml, hown, hts⟩ (m_X6_unsigned l D cI cD cB (FP.dadd s1.2.2.1 (FP.dmul s1.2.2.2 (FP.i2d ((c_p1_places (s1.1).toNatClampNeg) - s1.2.1)))) o8 e9 _) ⟨va_cnB 1 hts ggX3_run_X6_unsigned rfl rfl rfl (hNM.1 _ (List.mem_of_getElem? (i := 7) rfl)) (hts _ mi_X3_run_X6_unsigned) (by decide +kernel) ⟨Nat.le_of_ble_eq_true rfl, Nat.le_of_ble_eq_true rfl⟩, hts _ ms_X3_run_X6_unsigned, trivial⟩ (my_preS [] hP hK hNM hZ hD hS hA rfl rfl) rfl rfl hl.1 rfl (lv_room (Nat.le_of_ble_eq_true rfl)) dX3_run_72 ⟨Nat.zero_le _, Nat.zero_le _⟩) hP hD hS hA [] [0, 1, 2, 3, 4] [0, 1, 2, 3, 4] rfl rfl rfl rfl rfl (by decide) (fun H locs hP hD hS => ?_)
        refine lv_aload_n hx hb dX3_run_75 rfl (lv_at hl 3 rfl) ?_
        refine va_get (D := D) (ci := 7) (v := .ref a_p1_halves) (C := RX5) (T := TX5) (N := 7) hx hb hts mc_X3_run_X5 hown hK hP 1 rfl rfl 2 (by decide) (hts _ mf_X3_run_38) (fun _ h9 => h9) rfl dX3_run_76 ?_
        refine lv_iload hx hb dX3_run_79 (lv_at hl 1 rfl) ?_
        obtain ⟨g10, h⟩ := gd_e h
        refine va_iald hx hb hK hP 3 0 rfl rfl (vin_in g10) dX3_run_81 ?_
        refine lv_i2d hx hb dX3_run_82 ?_
        refine lv_dcmp hx hb dX3_run_83 ?_
        refine lv_if_le (tgt := 94) hx hb dX3_run_84 (by decide) (fun q11 => ?_) (fun q11 => ?_)
        · replace h := ifp h q11
          refine lv_aload_n hx hb dX3_run_94 rfl (lv_at hl 2 rfl) ?_
          refine lv_aload_n hx hb dX3_run_95 rfl (lv_at hl 2 rfl) ?_
          refine va_get (D := D) (ci := 5) (v := .double s1.2.2.2) (C := RX3) (T := TX3) (N := 3) hx hb hts mc_X3_run_X3 hown hK hP 0 rfl rfl 1 (by decide) (hts _ mf_X3_run_15) (fun _ h9 => h9) rfl dX3_run_96 ?_
          refine lv_aload_n hx hb dX3_run_99 rfl (lv_at hl 2 rfl) ?_
          refine va_get (D := D) (ci := 5) (v := .double (FP.dadd s1.2.2.1 (FP.dmul s1.2.2.2 (FP.i2d ((c_p1_places (s1.1).toNatClampNeg) - s1.2.1))))) (C := RX3) (T := TX3) (N := 3) hx hb hts mc_X3_run_X3 hown hK hP 0 rfl rfl 0 (by decide) (hts _ mf_X3_run_9) (fun _ h9 => h9) rfl dX3_run_100 ?_
          refine lv_aload_n hx hb dX3_run_103 rfl (lv_at hl 3 rfl) ?_
          refine va_get (D := D) (ci := 7) (v := .ref a_p1_bends) (C := RX5) (T := TX5) (N := 7) hx hb hts mc_X3_run_X5 hown hK hP 1 rfl rfl 3 (by decide) (hts _ mf_X3_run_41) (fun _ h9 => h9) rfl dX3_run_104 ?_
          refine lv_iload hx hb dX3_run_107 (lv_at hl 1 rfl) ?_
          obtain ⟨g12, h⟩ := gd_e h
          refine va_dald hx hb hK hP 4 1 rfl rfl (vin_in g12) dX3_run_109 ?_
          obtain ⟨g13, h⟩ := gd_e h
          refine lv_dmul hx hb dX3_run_110 (n64_n g13) ?_
          obtain ⟨g14, h⟩ := gd_e h
          refine lv_dsub hx hb dX3_run_111 (n64_n g14) ?_
          refine va_put (D := D) (ci := 5) (v := .double (FP.dsub s1.2.2.2 (FP.dmul (FP.dadd s1.2.2.1 (FP.dmul s1.2.2.2 (FP.i2d ((c_p1_places (s1.1).toNatClampNeg) - s1.2.1)))) (c_p1_bends (s1.1).toNatClampNeg)))) (ty := .double) (C := RX3) (T := TX3) (N := 3) hx hb hts mc_X3_run_X3 tyX3 tyX3_ok nmX3 hown hK hP hD hS 0 rfl rfl 1 (by decide) (hts _ mf_X3_run_15) (fun _ h9 => h9) rfl (tyX3_ok 1 (by decide)) rfl rfl (Nat.le_of_ble_eq_true rfl) dX3_run_112 (fun H locs hP hD hS => ?_)
          have hP : va_P D vwCl [(a_t, .inr (5, [.double (FP.dadd s1.2.2.1 (FP.dmul s1.2.2.2 (FP.i2d ((c_p1_places (s1.1).toNatClampNeg) - s1.2.1)))), .double (FP.dsub s1.2.2.2 (FP.dmul (FP.dadd s1.2.2.1 (FP.dmul s1.2.2.2 (FP.i2d ((c_p1_places (s1.1).toNatClampNeg) - s1.2.1)))) (c_p1_bends (s1.1).toNatClampNeg))), .int (-1 : Int32)])), (a_p1, .inr (7, [.ref a_p1_numbers, .ref a_p1_places, .ref a_p1_halves, .ref a_p1_bends, .int c_p1_size, .int c_p1_start, .int c_p1_end])), (a_p1_places, .inl (cI, 8, .inl c_p1_places)), (a_p1_halves, .inl (cI, 8, .inl c_p1_halves)), (a_p1_bends, .inl (cD, 8, .inr (.inr (.inr (.inl c_p1_bends)))))] H := hP
          have hD : va_D A [(a_t, .inr (5, [.double (FP.dadd s1.2.2.1 (FP.dmul s1.2.2.2 (FP.i2d ((c_p1_places (s1.1).toNatClampNeg) - s1.2.1)))), .double (FP.dsub s1.2.2.2 (FP.dmul (FP.dadd s1.2.2.1 (FP.dmul s1.2.2.2 (FP.i2d ((c_p1_places (s1.1).toNatClampNeg) - s1.2.1)))) (c_p1_bends (s1.1).toNatClampNeg))), .int (-1 : Int32)])), (a_p1, .inr (7, [.ref a_p1_numbers, .ref a_p1_places, .ref a_p1_halves, .ref a_p1_bends, .int c_p1_size, .int c_p1_start, .int c_p1_end])), (a_p1_places, .inl (cI, 8, .inl c_p1_places)), (a_p1_halves, .inl (cI, 8, .inl c_p1_halves)), (a_p1_bends, .inl (cD, 8, .inr (.inr (.inr (.inl c_p1_bends)))))] := hD
          refine lv_iinc (v := (s1.1 + (1 : Int32))) (lv' := [(7, .int (s1.1 + (1 : Int32))), (6, .int (c_p1_places (s1.1).toNatClampNeg)), (0, .ref a_t), (1, .ref a_p1), (2, .double p2), (4, .double p3)]) hx hb dX3_run_115 hl (k := 1) rfl rfl (by decide) rfl (fun ls hl => ?_)
          refine lv_goto (tgt := 25) hx hb dX3_run_118 (by decide) ?_
          exact ih1 ((s1.1 + (1 : Int32)), (c_p1_places (s1.1).toNatClampNeg), (FP.dadd s1.2.2.1 (FP.dmul s1.2.2.2 (FP.i2d ((c_p1_places (s1.1).toNatClampNeg) - s1.2.1)))), (FP.dsub s1.2.2.2 (FP.dmul (FP.dadd s1.2.2.1 (FP.dmul s1.2.2.2 (FP.i2d ((c_p1_places (s1.1).toNatClampNeg) - s1.2.1)))) (c_p1_bends (s1.1).toNatClampNeg)))) _ _ _ hP hD hS (lv_sub hl [0, 1, 2, 3, 4, 5] rfl) h
        · replace h := ifn h q11
          refine lv_aload_n hx hb dX3_run_87 rfl (lv_at hl 2 rfl) ?_
          refine lv_iload hx hb dX3_run_88 (lv_at hl 1 rfl) ?_
          refine va_put (D := D) (ci := 5) (v := .int s1.1) (ty := .int) (C := RX3) (T := TX3) (N := 3) hx hb hts mc_X3_run_X3 tyX3 tyX3_ok nmX3 hown hK hP hD hS 0 rfl rfl 2 (by decide) (hts _ mf_X3_run_18) (fun _ h9 => h9) rfl (tyX3_ok 2 (by decide)) rfl rfl (Nat.le_of_ble_eq_true rfl) dX3_run_90 (fun H locs hP hD hS => ?_)
          have hP : va_P D vwCl [(a_t, .inr (5, [.double (FP.dadd s1.2.2.1 (FP.dmul s1.2.2.2 (FP.i2d ((c_p1_places (s1.1).toNatClampNeg) - s1.2.1)))), .double s1.2.2.2, .int s1.1])), (a_p1, .inr (7, [.ref a_p1_numbers, .ref a_p1_places, .ref a_p1_halves, .ref a_p1_bends, .int c_p1_size, .int c_p1_start, .int c_p1_end])), (a_p1_places, .inl (cI, 8, .inl c_p1_places)), (a_p1_halves, .inl (cI, 8, .inl c_p1_halves)), (a_p1_bends, .inl (cD, 8, .inr (.inr (.inr (.inl c_p1_bends)))))] H := hP
          have hD : va_D A [(a_t, .inr (5, [.double (FP.dadd s1.2.2.1 (FP.dmul s1.2.2.2 (FP.i2d ((c_p1_places (s1.1).toNatClampNeg) - s1.2.1)))), .double s1.2.2.2, .int s1.1])), (a_p1, .inr (7, [.ref a_p1_numbers, .ref a_p1_places, .ref a_p1_halves, .ref a_p1_bends, .int c_p1_size, .int c_p1_start, .int c_p1_end])), (a_p1_places, .inl (cI, 8, .inl c_p1_places)), (a_p1_halves, .inl (cI, 8, .inl c_p1_halves)), (a_p1_bends, .inl (cD, 8, .inr (.inr (.inr (.inl c_p1_bends)))))] := hD
          rw [← some_e h] at hfin
          exact hfin 93 _ _ _ dX3_run_93 hP hD hS
  exact LOOP1 1000 ((0 : Int32), c_p1_start, p2, p3) _ _ _ hP hD hS hl h
theorem mc_X1_send_X1 : ∀ w ∈ wsX10, w ∈ wsX1_send := by decide +kernel
theorem mc_X1_send_X3 : ∀ w ∈ wsX30, w ∈ wsX1_send := by decide +kernel
theorem mf_X1_send_12 : Cond.fieldLink RX1 12 "Lensbench$Fan" "ray" "LLensbench$Ray;" ∈ wsX1_send := by decide +kernel
theorem mf_X1_send_18 : Cond.fieldLink RX1 18 "Lensbench$Fan" "cuts" "[I" ∈ wsX1_send := by decide +kernel
theorem mf_X1_send_22 : Cond.fieldLink RX1 22 "Lensbench$Fan" "came" "I" ∈ wsX1_send := by decide +kernel
theorem mf_X1_send_32 : Cond.fieldLink RX1 32 "Lensbench$Ray" "cutAt" "I" ∈ wsX1_send := by decide +kernel
theorem mf_X1_send_35 : Cond.fieldLink RX1 35 "Lensbench$Ray" "h" "D" ∈ wsX1_send := by decide +kernel
theorem mk_X1_send_26 : Cond.constantDouble RX1 26 (4632233691727265792) ∈ wsX1_send := by decide +kernel
abbrev rm_X1_send : Room := { frames := 2, cells := 0, slots := 0, locals := 48 }
set_option maxHeartbeats 4000000 in
set_option maxRecDepth 100000 in
theorem m_X1_send (l : Launch) (D : va_G) (cI cD cB : ClassId) (a_t : Nat) (a_t_ray : Nat) (a_t_cuts : Nat) (a_p1 : Nat) (a_p1_numbers : Nat) (a_p1_places : Nat) (a_p1_halves : Nat) (a_p1_bends : Nat) (p2 : UInt64) (c_t_came : Int32) (c_t_lowest : UInt64) (c_t_highest : UInt64) (c_t_ray_h : UInt64) (c_t_ray_u : UInt64) (c_t_ray_cutAt : Int32) (c_t_cuts : Nat → Int32) (c_p1_size : Int32) (c_p1_start : Int32) (c_p1_end : Int32) (c_p1_places : Nat → Int32) (c_p1_halves : Nat → Int32) (c_p1_bends : Nat → UInt64) (R : Int32 × UInt64 × UInt64 × UInt64 × UInt64 × Int32 × (Nat → Int32)) (h : f_X1_send p2 c_t_lowest c_t_highest c_t_ray_h c_t_ray_u c_t_ray_cutAt c_t_cuts c_p1_size c_p1_start c_p1_end c_p1_places c_p1_halves c_p1_bends = some R) : Cv l yX1_send wsX1_send rm_X1_send D (TT cI cD cB) [.ref a_t, .ref a_p1, .double p2] [(a_t, .inr (3, [.ref a_t_ray, .ref a_t_cuts, .int c_t_came, .double c_t_lowest, .double c_t_highest])), (a_t_ray, .inr (5, [.double c_t_ray_h, .double c_t_ray_u, .int c_t_ray_cutAt])), (a_t_cuts, .inl (cI, 8, .inl c_t_cuts)), (a_p1, .inr (7, [.ref a_p1_numbers, .ref a_p1_places, .ref a_p1_halves, .ref a_p1_bends, .int c_p1_size, .int c_p1_start, .int c_p1_end])), (a_p1_places, .inl (cI, 8, .inl c_p1_places)), (a_p1_halves, .inl (cI, 8, .inl c_p1_halves)), (a_p1_bends, .inl (cD, 8, .inr (.inr (.inr (.inl c_p1_bends)))))] [(a_t, .inr (3, [.ref a_t_ray, .ref a_t_cuts, .int R.1, .double R.2.1, .double R.2.2.1])), (a_t_ray, .inr (5, [.double R.2.2.2.1, .double R.2.2.2.2.1, .int R.2.2.2.2.2.1])), (a_t_cuts, .inl (cI, 8, .inl R.2.2.2.2.2.2)), (a_p1, .inr (7, [.ref a_p1_numbers, .ref a_p1_places, .ref a_p1_halves, .ref a_p1_bends, .int c_p1_size, .int c_p1_start, .int c_p1_end])), (a_p1_places, .inl (cI, 8, .inl c_p1_places)), (a_p1_halves, .inl (cI, 8, .inl c_p1_halves)), (a_p1_bends, .inl (cD, 8, .inr (.inr (.inr (.inl c_p1_bends)))))] 0 0 := by
  unfold f_X1_send at h
  refine st_v (cc := cX1_send) (maxL := 5) (by decide) rfl (Nat.le_of_ble_eq_true rfl) (fun p e s m av below meth c A Q ls hx hb hml hts hown hA hK hNM hZ hP hD hS hl hfin => ?_)
  have hown : s.vm.findClass RX1 = some m.cls := hown
  have hl : lv_has ls 5 [(0, .ref a_t), (1, .ref a_p1), (2, .double p2)] := hl
  refine lv_aload_n hx hb dX1_send_0 rfl (lv_at hl 0 rfl) ?_
  refine lv_iconst (v := (0 : Int32)) hx hb dX1_send_1 (by decide) ?_
  refine va_put (D := D) (ci := 3) (v := .int (0 : Int32)) (ty := .int) (C := RX1) (T := TX1) (N := 5) hx hb hts mc_X1_send_X1 tyX1 tyX1_ok nmX1 hown hK hP hD hS 0 rfl rfl 2 (by decide) (hts _ mf_X1_send_22) (fun _ h9 => h9) rfl (tyX1_ok 2 (by decide)) rfl rfl (Nat.le_of_ble_eq_true rfl) dX1_send_2 (fun H locs hP hD hS => ?_)
  have hP : va_P D vwCl [(a_t, .inr (3, [.ref a_t_ray, .ref a_t_cuts, .int (0 : Int32), .double c_t_lowest, .double c_t_highest])), (a_t_ray, .inr (5, [.double c_t_ray_h, .double c_t_ray_u, .int c_t_ray_cutAt])), (a_t_cuts, .inl (cI, 8, .inl c_t_cuts)), (a_p1, .inr (7, [.ref a_p1_numbers, .ref a_p1_places, .ref a_p1_halves, .ref a_p1_bends, .int c_p1_size, .int c_p1_start, .int c_p1_end])), (a_p1_places, .inl (cI, 8, .inl c_p1_places)), (a_p1_halves, .inl (cI, 8, .inl c_p1_halves)), (a_p1_bends, .inl (cD, 8, .inr (.inr (.inr (.inl c_p1_bends)))))] H := hP
  have hD : va_D A [(a_t, .inr (3, [.ref a_t_ray, .ref a_t_cuts, .int (0 : Int32), .double c_t_lowest, .double c_t_highest])), (a_t_ray, .inr (5, [.double c_t_ray_h, .double c_t_ray_u, .int c_t_ray_cutAt])), (a_t_cuts, .inl (cI, 8, .inl c_t_cuts)), (a_p1, .inr (7, [.ref a_p1_numbers, .ref a_p1_places, .ref a_p1_halves, .ref a_p1_bends, .int c_p1_size, .int c_p1_start, .int c_p1_end])), (a_p1_places, .inl (cI, 8, .inl c_p1_places)), (a_p1_halves, .inl (cI, 8, .inl c_p1_halves)), (a_p1_bends, .inl (cD, 8, .inr (.inr (.inr (.inl c_p1_bends)))))] := hD
  refine lv_iconst (v := (0 : Int32)) hx hb dX1_send_5 (by decide) ?_
  refine lv_istore (lv' := [(4, .int (0 : Int32)), (0, .ref a_t), (1, .ref a_p1), (2, .double p2)]) hx hb dX1_send_6 hl (by decide) rfl (fun ls hl => ?_)
  have LOOP1 : ∀ (n1 : Nat) (s1 : Int32 × (Nat → Int32)) (H : Heap) (locs : List Loc) (ls : Array Slot), va_P D vwCl [(a_t, .inr (3, [.ref a_t_ray, .ref a_t_cuts, .int (0 : Int32), .double c_t_lowest, .double c_t_highest])), (a_t_ray, .inr (5, [.double c_t_ray_h, .double c_t_ray_u, .int c_t_ray_cutAt])), (a_t_cuts, .inl (cI, 8, .inl s1.2)), (a_p1, .inr (7, [.ref a_p1_numbers, .ref a_p1_places, .ref a_p1_halves, .ref a_p1_bends, .int c_p1_size, .int c_p1_start, .int c_p1_end])), (a_p1_places, .inl (cI, 8, .inl c_p1_places)), (a_p1_halves, .inl (cI, 8, .inl c_p1_halves)), (a_p1_bends, .inl (cD, 8, .inr (.inr (.inr (.inl c_p1_bends)))))] H → va_D A [(a_t, .inr (3, [.ref a_t_ray, .ref a_t_cuts, .int (0 : Int32), .double c_t_lowest, .double c_t_highest])), (a_t_ray, .inr (5, [.double c_t_ray_h, .double c_t_ray_u, .int c_t_ray_cutAt])), (a_t_cuts, .inl (cI, 8, .inl s1.2)), (a_p1, .inr (7, [.ref a_p1_numbers, .ref a_p1_places, .ref a_p1_halves, .ref a_p1_bends, .int c_p1_size, .int c_p1_start, .int c_p1_end])), (a_p1_places, .inl (cI, 8, .inl c_p1_places)), (a_p1_halves, .inl (cI, 8, .inl c_p1_halves)), (a_p1_bends, .inl (cD, 8, .inr (.inr (.inr (.inl c_p1_bends)))))] → va_S A s.heap H locs → lv_has ls 5 [(4, .int s1.1), (0, .ref a_t), (1, .ref a_p1), (2, .double p2)] → lp (f_X1_send_b1 p2 c_t_lowest c_t_highest c_t_ray_h c_t_ray_u c_t_ray_cutAt c_p1_size c_p1_start c_p1_end c_p1_places c_p1_halves c_p1_bends) n1 s1 = some R → W p l e rm_X1_send s m av below meth c H locs 0 0 Q (F0 m 8 ls []) := by
    intro n1
    induction n1 with
    | zero => intro s1 H locs ls hP hD hS hl h; exact lp_0 h
    | succ n1 ih1 =>
      intro s1 H locs ls hP hD hS hl h
      replace h := lp_s h
      unfold f_X1_send_b1 at h
      refine lv_iload hx hb dX1_send_8 (lv_at hl 0 rfl) ?_
      refine lv_bipush (v := (8 : Int32)) hx hb dX1_send_10 (by decide) ?_
      refine lv_icmp_ge (tgt := 29) hx hb dX1_send_12 (by decide) (fun q1 => ?_) (fun q1 => ?_)
      · replace h := ifp h q1
        refine lv_bipush (v := (-10 : Int32)) hx hb dX1_send_29 (by decide) ?_
        refine lv_istore (lv' := [(4, .int (-10 : Int32)), (0, .ref a_t), (1, .ref a_p1), (2, .double p2)]) hx hb dX1_send_31 hl (by decide) rfl (fun ls hl => ?_)
        have LOOP2 : ∀ (n2 : Nat) (s2 : Int32 × Int32 × UInt64 × UInt64 × UInt64 × UInt64 × Int32 × (Nat → Int32)) (H : Heap) (locs : List Loc) (ls : Array Slot), va_P D vwCl [(a_t, .inr (3, [.ref a_t_ray, .ref a_t_cuts, .int s2.2.1, .double s2.2.2.1, .double s2.2.2.2.1])), (a_t_ray, .inr (5, [.double s2.2.2.2.2.1, .double s2.2.2.2.2.2.1, .int s2.2.2.2.2.2.2.1])), (a_t_cuts, .inl (cI, 8, .inl s2.2.2.2.2.2.2.2)), (a_p1, .inr (7, [.ref a_p1_numbers, .ref a_p1_places, .ref a_p1_halves, .ref a_p1_bends, .int c_p1_size, .int c_p1_start, .int c_p1_end])), (a_p1_places, .inl (cI, 8, .inl c_p1_places)), (a_p1_halves, .inl (cI, 8, .inl c_p1_halves)), (a_p1_bends, .inl (cD, 8, .inr (.inr (.inr (.inl c_p1_bends)))))] H → va_D A [(a_t, .inr (3, [.ref a_t_ray, .ref a_t_cuts, .int s2.2.1, .double s2.2.2.1, .double s2.2.2.2.1])), (a_t_ray, .inr (5, [.double s2.2.2.2.2.1, .double s2.2.2.2.2.2.1, .int s2.2.2.2.2.2.2.1])), (a_t_cuts, .inl (cI, 8, .inl s2.2.2.2.2.2.2.2)), (a_p1, .inr (7, [.ref a_p1_numbers, .ref a_p1_places, .ref a_p1_halves, .ref a_p1_bends, .int c_p1_size, .int c_p1_start, .int c_p1_end])), (a_p1_places, .inl (cI, 8, .inl c_p1_places)), (a_p1_halves, .inl (cI, 8, .inl c_p1_halves)), (a_p1_bends, .inl (cD, 8, .inr (.inr (.inr (.inl c_p1_bends)))))] → va_S A s.heap H locs → lv_has ls 5 [(4, .int s2.1), (0, .ref a_t), (1, .ref a_p1), (2, .double p2)] → lp (f_X1_send_b2 p2 c_p1_size c_p1_start c_p1_end c_p1_places c_p1_halves c_p1_bends) n2 s2 = some R → W p l e rm_X1_send s m av below meth c H locs 0 0 Q (F0 m 33 ls []) := by
          intro n2
          induction n2 with
          | zero => intro s2 H locs ls hP hD hS hl h; exact lp_0 h
          | succ n2 ih2 =>
            intro s2 H locs ls hP hD hS hl h
            replace h := lp_s h
            unfold f_X1_send_b2 at h
            refine lv_iload hx hb dX1_send_33 (lv_at hl 0 rfl) ?_
            refine lv_bipush (v := (10 : Int32)) hx hb dX1_send_35 (by decide) ?_
            refine lv_icmp_gt (tgt := 114) hx hb dX1_send_37 (by decide) (fun q2 => ?_) (fun q2 => ?_)
            · replace h := ifp h q2
              rw [← some_e h] at hfin
              exact hfin 114 _ _ _ dX1_send_114 hP hD hS
            · replace h := ifn h q2
              refine lv_aload_n hx hb dX1_send_40 rfl (lv_at hl 1 rfl) ?_
              refine va_get (D := D) (ci := 3) (v := .ref a_t_ray) (C := RX1) (T := TX1) (N := 5) hx hb hts mc_X1_send_X1 hown hK hP 0 rfl rfl 0 (by decide) (hts _ mf_X1_send_12) (fun _ h9 => h9) rfl dX1_send_41 ?_
              refine lv_aload_n hx hb dX1_send_44 rfl (lv_at hl 2 rfl) ?_
              refine lv_dload_n hx hb dX1_send_45 rfl (lv_at hl 3 rfl) ?_
              refine lv_iload hx hb dX1_send_46 (lv_at hl 0 rfl) ?_
              refine lv_i2d hx hb dX1_send_48 ?_
              refine lv_ldc2d hx hb hown (hts _ mk_X1_send_26) dX1_send_49 ?_
              obtain ⟨g3, h⟩ := gd_e h
              refine lv_ddiv hx hb dX1_send_52 (n64_n g3) ?_
              obtain ⟨o4, e5, h⟩ := bd_e h
              refine co_v (W0 := [(a_t_ray, .inr (5, [.double s2.2.2.2.2.1, .double s2.2.2.2.2.2.1, .int s2.2.2.2.2.2.2.1])), (a_p1, .inr (7, [.ref a_p1_numbers, .ref a_p1_places, .ref a_p1_halves, .ref a_p1_bends, .int c_p1_size, .int c_p1_start, .int c_p1_end])), (a_p1_places, .inl (cI, 8, .inl c_p1_places)), (a_p1_halves, .inl (cI, 8, .inl c_p1_halves)), (a_p1_bends, .inl (cD, 8, .inr (.inr (.inr (.inl c_p1_bends)))))]) (wr := [(a_t, .inr (3, [.ref a_t_ray, .ref a_t_cuts, .int s2.2.1, .double s2.2.2.1, .double s2.2.2.2.1])), (a_t_cuts, .inl (cI, 8, .inl s2.2.2.2.2.2.2.2))]) (W1 := [(a_t_ray, .inr (5, [.double o4.1, .double o4.2.1, .int o4.2.2])), (a_p1, .inr (7, [.ref a_p1_numbers, .ref a_p1_places, .ref a_p1_halves, .ref a_p1_bends, .int c_p1_size, .int c_p1_start, .int c_p1_end])), (a_p1_places, .inl (cI, 8, .inl c_p1_places)), (a_p1_halves, .inl (cI, 8, .inl c_p1_halves)), (a_p1_bends, .inl (cD, 8, .inr (.inr (.inr (.inl c_p1_bends)))))]) (ws2 := [(a_t, .inr (3, [.ref a_t_ray, .ref a_t_cuts, .int s2.2.1, .double s2.2.2.1, .double s2.2.2.2.1])), (a_t_ray, .inr (5, [.double o4.1, .double o4.2.1, .int o4.2.2])), (a_t_cuts, .inl (cI, 8, .inl s2.2.2.2.2.2.2.2)), (a_p1, .inr (7, [.ref a_p1_numbers, .ref a_p1_places, .ref a_p1_halves, .ref a_p1_bends, .int c_p1_size, .int c_p1_start, .int c_p1_end])), (a_p1_places, .inl (cI, 8, .inl c_p1_places)), (a_p1_halves, .inl (cI, 8, .inl c_p1_halves)), (a_p1_bends, .inl (cD, 8, .inr (.inr (.inr (.inl c_p1_bends)))))]) (va_runV (C := RX3) (As := [.ref a_p1, .double p2, .double (FP.ddiv (FP.i2d s2.1) (4632233691727265792 : UInt64))]) (rest := []) ⟨hx, hb, hml, hown, hts⟩ (m_X3_run l D cI cD cB a_t_ray a_p1 a_p1_numbers a_p1_places a_p1_halves a_p1_bends p2 (FP.ddiv (FP.i2d s2.1) (4632233691727265792 : UInt64)) s2.2.2.2.2.1 s2.2.2.2.2.2.1 s2.2.2.2.2.2.2.1 c_p1_size c_p1_start c_p1_end c_p1_places c_p1_halves c_p1_bends o4 e5 _) (cwV 3 hts gX1_send_X3_run rfl rfl rfl (by decide +kernel) ⟨Nat.le_of_ble_eq_true rfl, Nat.le_of_ble_eq_true rfl⟩) (my_preV (q := (RX3, TX3, 3)) (ci := 5) (q0 := 1) [1, 3, 4, 5, 6] hP hK hNM hZ hD hS hA rfl rfl rfl rfl) rfl rfl hl.1 rfl (lv_room (Nat.le_of_ble_eq_true rfl)) dX1_send_53 ⟨Nat.zero_le _, Nat.zero_le _⟩) hP hD hS hA [1, 3, 4, 5, 6] [0, 2] [0, 2, 1, 3, 4, 5, 6] rfl rfl rfl rfl rfl (by decide) (fun H locs hP hD hS => ?_)
              refine lv_aload_n hx hb dX1_send_56 rfl (lv_at hl 1 rfl) ?_
              refine va_get (D := D) (ci := 3) (v := .ref a_t_ray) (C := RX1) (T := TX1) (N := 5) hx hb hts mc_X1_send_X1 hown hK hP 0 rfl rfl 0 (by decide) (hts _ mf_X1_send_12) (fun _ h9 => h9) rfl dX1_send_57 ?_
              refine va_get (D := D) (ci := 5) (v := .int o4.2.2) (C := RX3) (T := TX3) (N := 3) hx hb hts mc_X1_send_X3 hown hK hP 1 rfl rfl 2 (by decide) (hts _ mf_X1_send_32) (fun _ h9 => h9) rfl dX1_send_60 ?_
              refine lv_if_lt (tgt := 97) hx hb dX1_send_63 (by decide) (fun q6 => ?_) (fun q6 => ?_)
              · replace h := ifp h q6
                refine lv_aload_n hx hb dX1_send_97 rfl (lv_at hl 1 rfl) ?_
                refine lv_aload_n hx hb dX1_send_98 rfl (lv_at hl 1 rfl) ?_
                refine va_get (D := D) (ci := 3) (v := .ref a_t_ray) (C := RX1) (T := TX1) (N := 5) hx hb hts mc_X1_send_X1 hown hK hP 0 rfl rfl 0 (by decide) (hts _ mf_X1_send_12) (fun _ h9 => h9) rfl dX1_send_99 ?_
                refine va_get (D := D) (ci := 5) (v := .double o4.1) (C := RX3) (T := TX3) (N := 3) hx hb hts mc_X1_send_X3 hown hK hP 1 rfl rfl 0 (by decide) (hts _ mf_X1_send_35) (fun _ h9 => h9) rfl dX1_send_102 ?_
                obtain ⟨o7, e8, h⟩ := bd_e h
                refine co_v (W0 := [(a_t, .inr (3, [.ref a_t_ray, .ref a_t_cuts, .int s2.2.1, .double s2.2.2.1, .double s2.2.2.2.1]))]) (wr := [(a_t_ray, .inr (5, [.double o4.1, .double o4.2.1, .int o4.2.2])), (a_t_cuts, .inl (cI, 8, .inl s2.2.2.2.2.2.2.2)), (a_p1, .inr (7, [.ref a_p1_numbers, .ref a_p1_places, .ref a_p1_halves, .ref a_p1_bends, .int c_p1_size, .int c_p1_start, .int c_p1_end])), (a_p1_places, .inl (cI, 8, .inl c_p1_places)), (a_p1_halves, .inl (cI, 8, .inl c_p1_halves)), (a_p1_bends, .inl (cD, 8, .inr (.inr (.inr (.inl c_p1_bends)))))]) (W1 := [(a_t, .inr (3, [.ref a_t_ray, .ref a_t_cuts, .int o7.1, .double o7.2.1, .double o7.2.2]))]) (ws2 := [(a_t, .inr (3, [.ref a_t_ray, .ref a_t_cuts, .int o7.1, .double o7.2.1, .double o7.2.2])), (a_t_ray, .inr (5, [.double o4.1, .double o4.2.1, .int o4.2.2])), (a_t_cuts, .inl (cI, 8, .inl s2.2.2.2.2.2.2.2)), (a_p1, .inr (7, [.ref a_p1_numbers, .ref a_p1_places, .ref a_p1_halves, .ref a_p1_bends, .int c_p1_size, .int c_p1_start, .int c_p1_end])), (a_p1_places, .inl (cI, 8, .inl c_p1_places)), (a_p1_halves, .inl (cI, 8, .inl c_p1_halves)), (a_p1_bends, .inl (cD, 8, .inr (.inr (.inr (.inl c_p1_bends)))))]) (va_runV (C := RX1) (As := [.double o4.1]) (rest := []) ⟨hx, hb, hml, hown, hts⟩ (m_X1_arrive l D cI cD cB a_t a_t_ray a_t_cuts o4.1 s2.2.1 s2.2.2.1 s2.2.2.2.1 o7 e8 _) (cwV 1 hts gX1_send_X1_arrive rfl rfl rfl (by decide +kernel) ⟨Nat.le_of_ble_eq_true rfl, Nat.le_of_ble_eq_true rfl⟩) (my_preV (q := (RX1, TX1, 5)) (ci := 3) (q0 := 0) [0] hP hK hNM hZ hD hS hA rfl rfl rfl rfl) rfl rfl hl.1 rfl (lv_room (Nat.le_of_ble_eq_true rfl)) dX1_send_105 ⟨Nat.zero_le _, Nat.zero_le _⟩) hP hD hS hA [0] [1, 2, 3, 4, 5, 6] [6, 0, 1, 2, 3, 4, 5] rfl rfl rfl rfl rfl (by decide) (fun H locs hP hD hS => ?_)
                refine lv_iinc (v := (s2.1 + (1 : Int32))) (lv' := [(4, .int (s2.1 + (1 : Int32))), (0, .ref a_t), (1, .ref a_p1), (2, .double p2)]) hx hb dX1_send_108 hl (k := 0) rfl rfl (by decide) rfl (fun ls hl => ?_)
                refine lv_goto (tgt := 33) hx hb dX1_send_111 (by decide) ?_
                exact ih2 ((s2.1 + (1 : Int32)), o7.1, o7.2.1, o7.2.2, o4.1, o4.2.1, o4.2.2, s2.2.2.2.2.2.2.2) _ _ _ hP hD hS (lv_sub hl [0, 1, 2, 3] rfl) h
              · replace h := ifn h q6
                refine lv_aload_n hx hb dX1_send_66 rfl (lv_at hl 1 rfl) ?_
                refine va_get (D := D) (ci := 3) (v := .ref a_t_ray) (C := RX1) (T := TX1) (N := 5) hx hb hts mc_X1_send_X1 hown hK hP 0 rfl rfl 0 (by decide) (hts _ mf_X1_send_12) (fun _ h9 => h9) rfl dX1_send_67 ?_
                refine va_get (D := D) (ci := 5) (v := .int o4.2.2) (C := RX3) (T := TX3) (N := 3) hx hb hts mc_X1_send_X3 hown hK hP 1 rfl rfl 2 (by decide) (hts _ mf_X1_send_32) (fun _ h9 => h9) rfl dX1_send_70 ?_
                refine lv_bipush (v := (8 : Int32)) hx hb dX1_send_73 (by decide) ?_
                refine lv_icmp_ge (tgt := 97) hx hb dX1_send_75 (by decide) (fun q9 => ?_) (fun q9 => ?_)
                · replace h := ifp h q9
                  refine lv_aload_n hx hb dX1_send_97 rfl (lv_at hl 1 rfl) ?_
                  refine lv_aload_n hx hb dX1_send_98 rfl (lv_at hl 1 rfl) ?_
                  refine va_get (D := D) (ci := 3) (v := .ref a_t_ray) (C := RX1) (T := TX1) (N := 5) hx hb hts mc_X1_send_X1 hown hK hP 0 rfl rfl 0 (by decide) (hts _ mf_X1_send_12) (fun _ h9 => h9) rfl dX1_send_99 ?_
                  refine va_get (D := D) (ci := 5) (v := .double o4.1) (C := RX3) (T := TX3) (N := 3) hx hb hts mc_X1_send_X3 hown hK hP 1 rfl rfl 0 (by decide) (hts _ mf_X1_send_35) (fun _ h9 => h9) rfl dX1_send_102 ?_
                  obtain ⟨o10, e11, h⟩ := bd_e h
                  refine co_v (W0 := [(a_t, .inr (3, [.ref a_t_ray, .ref a_t_cuts, .int s2.2.1, .double s2.2.2.1, .double s2.2.2.2.1]))]) (wr := [(a_t_ray, .inr (5, [.double o4.1, .double o4.2.1, .int o4.2.2])), (a_t_cuts, .inl (cI, 8, .inl s2.2.2.2.2.2.2.2)), (a_p1, .inr (7, [.ref a_p1_numbers, .ref a_p1_places, .ref a_p1_halves, .ref a_p1_bends, .int c_p1_size, .int c_p1_start, .int c_p1_end])), (a_p1_places, .inl (cI, 8, .inl c_p1_places)), (a_p1_halves, .inl (cI, 8, .inl c_p1_halves)), (a_p1_bends, .inl (cD, 8, .inr (.inr (.inr (.inl c_p1_bends)))))]) (W1 := [(a_t, .inr (3, [.ref a_t_ray, .ref a_t_cuts, .int o10.1, .double o10.2.1, .double o10.2.2]))]) (ws2 := [(a_t, .inr (3, [.ref a_t_ray, .ref a_t_cuts, .int o10.1, .double o10.2.1, .double o10.2.2])), (a_t_ray, .inr (5, [.double o4.1, .double o4.2.1, .int o4.2.2])), (a_t_cuts, .inl (cI, 8, .inl s2.2.2.2.2.2.2.2)), (a_p1, .inr (7, [.ref a_p1_numbers, .ref a_p1_places, .ref a_p1_halves, .ref a_p1_bends, .int c_p1_size, .int c_p1_start, .int c_p1_end])), (a_p1_places, .inl (cI, 8, .inl c_p1_places)), (a_p1_halves, .inl (cI, 8, .inl c_p1_halves)), (a_p1_bends, .inl (cD, 8, .inr (.inr (.inr (.inl c_p1_bends)))))]) (va_runV (C := RX1) (As := [.double o4.1]) (rest := []) ⟨hx, hb, hml, hown, hts⟩ (m_X1_arrive l D cI cD cB a_t a_t_ray a_t_cuts o4.1 s2.2.1 s2.2.2.1 s2.2.2.2.1 o10 e11 _) (cwV 1 hts gX1_send_X1_arrive rfl rfl rfl (by decide +kernel) ⟨Nat.le_of_ble_eq_true rfl, Nat.le_of_ble_eq_true rfl⟩) (my_preV (q := (RX1, TX1, 5)) (ci := 3) (q0 := 0) [0] hP hK hNM hZ hD hS hA rfl rfl rfl rfl) rfl rfl hl.1 rfl (lv_room (Nat.le_of_ble_eq_true rfl)) dX1_send_105 ⟨Nat.zero_le _, Nat.zero_le _⟩) hP hD hS hA [0] [1, 2, 3, 4, 5, 6] [6, 0, 1, 2, 3, 4, 5] rfl rfl rfl rfl rfl (by decide) (fun H locs hP hD hS => ?_)
                  refine lv_iinc (v := (s2.1 + (1 : Int32))) (lv' := [(4, .int (s2.1 + (1 : Int32))), (0, .ref a_t), (1, .ref a_p1), (2, .double p2)]) hx hb dX1_send_108 hl (k := 0) rfl rfl (by decide) rfl (fun ls hl => ?_)
                  refine lv_goto (tgt := 33) hx hb dX1_send_111 (by decide) ?_
                  exact ih2 ((s2.1 + (1 : Int32)), o10.1, o10.2.1, o10.2.2, o4.1, o4.2.1, o4.2.2, s2.2.2.2.2.2.2.2) _ _ _ hP hD hS (lv_sub hl [0, 1, 2, 3] rfl) h
                · replace h := ifn h q9
                  refine lv_aload_n hx hb dX1_send_78 rfl (lv_at hl 1 rfl) ?_
                  refine va_get (D := D) (ci := 3) (v := .ref a_t_cuts) (C := RX1) (T := TX1) (N := 5) hx hb hts mc_X1_send_X1 hown hK hP 0 rfl rfl 1 (by decide) (hts _ mf_X1_send_18) (fun _ h9 => h9) rfl dX1_send_79 ?_
                  refine lv_aload_n hx hb dX1_send_82 rfl (lv_at hl 1 rfl) ?_
                  refine va_get (D := D) (ci := 3) (v := .ref a_t_ray) (C := RX1) (T := TX1) (N := 5) hx hb hts mc_X1_send_X1 hown hK hP 0 rfl rfl 0 (by decide) (hts _ mf_X1_send_12) (fun _ h9 => h9) rfl dX1_send_83 ?_
                  refine va_get (D := D) (ci := 5) (v := .int o4.2.2) (C := RX3) (T := TX3) (N := 3) hx hb hts mc_X1_send_X3 hown hK hP 1 rfl rfl 2 (by decide) (hts _ mf_X1_send_32) (fun _ h9 => h9) rfl dX1_send_86 ?_
                  refine lv_dup2_11 hx hb dX1_send_89 rfl rfl ?_
                  obtain ⟨g12, h⟩ := gd_e h
                  refine va_iald hx hb hK hP 2 0 rfl rfl (vin_in g12) dX1_send_90 ?_
                  refine lv_iconst (v := (1 : Int32)) hx hb dX1_send_91 (by decide) ?_
                  refine lv_iadd hx hb dX1_send_92 ?_
                  obtain ⟨g13, h⟩ := gd_e h
                  refine va_iast hx hb hK hP hD hS 2 0 rfl rfl (vin_in g13) dX1_send_93 (fun H locs hP hD hS => ?_)
                  have hP : va_P D vwCl [(a_t, .inr (3, [.ref a_t_ray, .ref a_t_cuts, .int s2.2.1, .double s2.2.2.1, .double s2.2.2.2.1])), (a_t_ray, .inr (5, [.double o4.1, .double o4.2.1, .int o4.2.2])), (a_t_cuts, .inl (cI, 8, .inl (upd s2.2.2.2.2.2.2.2 (o4.2.2).toNatClampNeg ((s2.2.2.2.2.2.2.2 (o4.2.2).toNatClampNeg) + (1 : Int32))))), (a_p1, .inr (7, [.ref a_p1_numbers, .ref a_p1_places, .ref a_p1_halves, .ref a_p1_bends, .int c_p1_size, .int c_p1_start, .int c_p1_end])), (a_p1_places, .inl (cI, 8, .inl c_p1_places)), (a_p1_halves, .inl (cI, 8, .inl c_p1_halves)), (a_p1_bends, .inl (cD, 8, .inr (.inr (.inr (.inl c_p1_bends)))))] H := hP
                  have hD : va_D A [(a_t, .inr (3, [.ref a_t_ray, .ref a_t_cuts, .int s2.2.1, .double s2.2.2.1, .double s2.2.2.2.1])), (a_t_ray, .inr (5, [.double o4.1, .double o4.2.1, .int o4.2.2])), (a_t_cuts, .inl (cI, 8, .inl (upd s2.2.2.2.2.2.2.2 (o4.2.2).toNatClampNeg ((s2.2.2.2.2.2.2.2 (o4.2.2).toNatClampNeg) + (1 : Int32))))), (a_p1, .inr (7, [.ref a_p1_numbers, .ref a_p1_places, .ref a_p1_halves, .ref a_p1_bends, .int c_p1_size, .int c_p1_start, .int c_p1_end])), (a_p1_places, .inl (cI, 8, .inl c_p1_places)), (a_p1_halves, .inl (cI, 8, .inl c_p1_halves)), (a_p1_bends, .inl (cD, 8, .inr (.inr (.inr (.inl c_p1_bends)))))] := hD
                  refine lv_goto (tgt := 108) hx hb dX1_send_94 (by decide) ?_
                  refine lv_iinc (v := (s2.1 + (1 : Int32))) (lv' := [(4, .int (s2.1 + (1 : Int32))), (0, .ref a_t), (1, .ref a_p1), (2, .double p2)]) hx hb dX1_send_108 hl (k := 0) rfl rfl (by decide) rfl (fun ls hl => ?_)
                  refine lv_goto (tgt := 33) hx hb dX1_send_111 (by decide) ?_
                  exact ih2 ((s2.1 + (1 : Int32)), s2.2.1, s2.2.2.1, s2.2.2.2.1, o4.1, o4.2.1, o4.2.2, (upd s2.2.2.2.2.2.2.2 (o4.2.2).toNatClampNeg ((s2.2.2.2.2.2.2.2 (o4.2.2).toNatClampNeg) + (1 : Int32)))) _ _ _ hP hD hS (lv_sub hl [0, 1, 2, 3] rfl) h
        exact LOOP2 1000 ((-10 : Int32), (0 : Int32), c_t_lowest, c_t_highest, c_t_ray_h, c_t_ray_u, c_t_ray_cutAt, s1.2) _ _ _ hP hD hS hl h
      · replace h := ifn h q1
        refine lv_aload_n hx hb dX1_send_15 rfl (lv_at hl 1 rfl) ?_
        refine va_get (D := D) (ci := 3) (v := .ref a_t_cuts) (C := RX1) (T := TX1) (N := 5) hx hb hts mc_X1_send_X1 hown hK hP 0 rfl rfl 1 (by decide) (hts _ mf_X1_send_18) (fun _ h9 => h9) rfl dX1_send_16 ?_
        refine lv_iload hx hb dX1_send_19 (lv_at hl 0 rfl) ?_
        refine lv_iconst (v := (0 : Int32)) hx hb dX1_send_21 (by decide) ?_
        obtain ⟨g14, h⟩ := gd_e h
        refine va_iast hx hb hK hP hD hS 2 0 rfl rfl (vin_in g14) dX1_send_22 (fun H locs hP hD hS => ?_)
        have hP : va_P D vwCl [(a_t, .inr (3, [.ref a_t_ray, .ref a_t_cuts, .int (0 : Int32), .double c_t_lowest, .double c_t_highest])), (a_t_ray, .inr (5, [.double c_t_ray_h, .double c_t_ray_u, .int c_t_ray_cutAt])), (a_t_cuts, .inl (cI, 8, .inl (upd s1.2 (s1.1).toNatClampNeg (0 : Int32)))), (a_p1, .inr (7, [.ref a_p1_numbers, .ref a_p1_places, .ref a_p1_halves, .ref a_p1_bends, .int c_p1_size, .int c_p1_start, .int c_p1_end])), (a_p1_places, .inl (cI, 8, .inl c_p1_places)), (a_p1_halves, .inl (cI, 8, .inl c_p1_halves)), (a_p1_bends, .inl (cD, 8, .inr (.inr (.inr (.inl c_p1_bends)))))] H := hP
        have hD : va_D A [(a_t, .inr (3, [.ref a_t_ray, .ref a_t_cuts, .int (0 : Int32), .double c_t_lowest, .double c_t_highest])), (a_t_ray, .inr (5, [.double c_t_ray_h, .double c_t_ray_u, .int c_t_ray_cutAt])), (a_t_cuts, .inl (cI, 8, .inl (upd s1.2 (s1.1).toNatClampNeg (0 : Int32)))), (a_p1, .inr (7, [.ref a_p1_numbers, .ref a_p1_places, .ref a_p1_halves, .ref a_p1_bends, .int c_p1_size, .int c_p1_start, .int c_p1_end])), (a_p1_places, .inl (cI, 8, .inl c_p1_places)), (a_p1_halves, .inl (cI, 8, .inl c_p1_halves)), (a_p1_bends, .inl (cD, 8, .inr (.inr (.inr (.inl c_p1_bends)))))] := hD
        refine lv_iinc (v := (s1.1 + (1 : Int32))) (lv' := [(4, .int (s1.1 + (1 : Int32))), (0, .ref a_t), (1, .ref a_p1), (2, .double p2)]) hx hb dX1_send_23 hl (k := 0) rfl rfl (by decide) rfl (fun ls hl => ?_)
        refine lv_goto (tgt := 8) hx hb dX1_send_26 (by decide) ?_
        exact ih1 ((s1.1 + (1 : Int32)), (upd s1.2 (s1.1).toNatClampNeg (0 : Int32))) _ _ _ hP hD hS (lv_sub hl [0, 1, 2, 3] rfl) h
  exact LOOP1 1000 ((0 : Int32), c_t_cuts) _ _ _ hP hD hS hl h
theorem mc_X4_clear_X4 : ∀ w ∈ wsX40, w ∈ wsX4_clear := by decide +kernel
theorem mf_X4_clear_13 : Cond.fieldLink RX4 13 "Lensbench$Table" "b" "D" ∈ wsX4_clear := by decide +kernel
theorem mf_X4_clear_16 : Cond.fieldLink RX4 16 "Lensbench$Table" "c" "D" ∈ wsX4_clear := by decide +kernel
theorem mf_X4_clear_19 : Cond.fieldLink RX4 19 "Lensbench$Table" "d" "D" ∈ wsX4_clear := by decide +kernel
theorem mf_X4_clear_7 : Cond.fieldLink RX4 7 "Lensbench$Table" "a" "D" ∈ wsX4_clear := by decide +kernel
abbrev rm_X4_clear : Room := { frames := 0, cells := 0, slots := 0, locals := 0 }
set_option maxHeartbeats 4000000 in
set_option maxRecDepth 100000 in
theorem m_X4_clear (l : Launch) (D : va_G) (cI cD cB : ClassId) (a_t : Nat) (c_t_a : UInt64) (c_t_b : UInt64) (c_t_c : UInt64) (c_t_d : UInt64) (R : UInt64 × UInt64 × UInt64 × UInt64) (h : f_X4_clear = some R) : Cv l yX4_clear wsX4_clear rm_X4_clear D (TT cI cD cB) [.ref a_t] [(a_t, .inr (6, [.double c_t_a, .double c_t_b, .double c_t_c, .double c_t_d]))] [(a_t, .inr (6, [.double R.1, .double R.2.1, .double R.2.2.1, .double R.2.2.2]))] 0 0 := by
  unfold f_X4_clear at h
  refine st_v (cc := cX4_clear) (maxL := 1) (by decide) rfl (Nat.le_of_ble_eq_true rfl) (fun p e s m av below meth c A Q ls hx hb hml hts hown hA hK hNM hZ hP hD hS hl hfin => ?_)
  have hown : s.vm.findClass RX4 = some m.cls := hown
  have hl : lv_has ls 1 [(0, .ref a_t)] := hl
  refine lv_aload_n hx hb dX4_clear_0 rfl (lv_at hl 0 rfl) ?_
  refine lv_dconst1 hx hb dX4_clear_1 ?_
  refine va_put (D := D) (ci := 6) (v := .double FP.dconst1) (ty := .double) (C := RX4) (T := TX4) (N := 4) hx hb hts mc_X4_clear_X4 tyX4 tyX4_ok nmX4 hown hK hP hD hS 0 rfl rfl 0 (by decide) (hts _ mf_X4_clear_7) (fun _ h9 => h9) rfl (tyX4_ok 0 (by decide)) rfl rfl (Nat.le_of_ble_eq_true rfl) dX4_clear_2 (fun H locs hP hD hS => ?_)
  have hP : va_P D vwCl [(a_t, .inr (6, [.double FP.dconst1, .double c_t_b, .double c_t_c, .double c_t_d]))] H := hP
  have hD : va_D A [(a_t, .inr (6, [.double FP.dconst1, .double c_t_b, .double c_t_c, .double c_t_d]))] := hD
  refine lv_aload_n hx hb dX4_clear_5 rfl (lv_at hl 0 rfl) ?_
  refine lv_dconst0 hx hb dX4_clear_6 ?_
  refine va_put (D := D) (ci := 6) (v := .double FP.dconst0) (ty := .double) (C := RX4) (T := TX4) (N := 4) hx hb hts mc_X4_clear_X4 tyX4 tyX4_ok nmX4 hown hK hP hD hS 0 rfl rfl 1 (by decide) (hts _ mf_X4_clear_13) (fun _ h9 => h9) rfl (tyX4_ok 1 (by decide)) rfl rfl (Nat.le_of_ble_eq_true rfl) dX4_clear_7 (fun H locs hP hD hS => ?_)
  have hP : va_P D vwCl [(a_t, .inr (6, [.double FP.dconst1, .double FP.dconst0, .double c_t_c, .double c_t_d]))] H := hP
  have hD : va_D A [(a_t, .inr (6, [.double FP.dconst1, .double FP.dconst0, .double c_t_c, .double c_t_d]))] := hD
  refine lv_aload_n hx hb dX4_clear_10 rfl (lv_at hl 0 rfl) ?_
  refine lv_dconst0 hx hb dX4_clear_11 ?_
  refine va_put (D := D) (ci := 6) (v := .double FP.dconst0) (ty := .double) (C := RX4) (T := TX4) (N := 4) hx hb hts mc_X4_clear_X4 tyX4 tyX4_ok nmX4 hown hK hP hD hS 0 rfl rfl 2 (by decide) (hts _ mf_X4_clear_16) (fun _ h9 => h9) rfl (tyX4_ok 2 (by decide)) rfl rfl (Nat.le_of_ble_eq_true rfl) dX4_clear_12 (fun H locs hP hD hS => ?_)
  have hP : va_P D vwCl [(a_t, .inr (6, [.double FP.dconst1, .double FP.dconst0, .double FP.dconst0, .double c_t_d]))] H := hP
  have hD : va_D A [(a_t, .inr (6, [.double FP.dconst1, .double FP.dconst0, .double FP.dconst0, .double c_t_d]))] := hD
  refine lv_aload_n hx hb dX4_clear_15 rfl (lv_at hl 0 rfl) ?_
  refine lv_dconst1 hx hb dX4_clear_16 ?_
  refine va_put (D := D) (ci := 6) (v := .double FP.dconst1) (ty := .double) (C := RX4) (T := TX4) (N := 4) hx hb hts mc_X4_clear_X4 tyX4 tyX4_ok nmX4 hown hK hP hD hS 0 rfl rfl 3 (by decide) (hts _ mf_X4_clear_19) (fun _ h9 => h9) rfl (tyX4_ok 3 (by decide)) rfl rfl (Nat.le_of_ble_eq_true rfl) dX4_clear_17 (fun H locs hP hD hS => ?_)
  have hP : va_P D vwCl [(a_t, .inr (6, [.double FP.dconst1, .double FP.dconst0, .double FP.dconst0, .double FP.dconst1]))] H := hP
  have hD : va_D A [(a_t, .inr (6, [.double FP.dconst1, .double FP.dconst0, .double FP.dconst0, .double FP.dconst1]))] := hD
  rw [← some_e h] at hfin
  exact hfin 20 _ _ _ dX4_clear_20 hP hD hS
theorem mc_X4_goOn_X4 : ∀ w ∈ wsX40, w ∈ wsX4_goOn := by decide +kernel
theorem mf_X4_goOn_13 : Cond.fieldLink RX4 13 "Lensbench$Table" "b" "D" ∈ wsX4_goOn := by decide +kernel
theorem mf_X4_goOn_16 : Cond.fieldLink RX4 16 "Lensbench$Table" "c" "D" ∈ wsX4_goOn := by decide +kernel
theorem mf_X4_goOn_19 : Cond.fieldLink RX4 19 "Lensbench$Table" "d" "D" ∈ wsX4_goOn := by decide +kernel
theorem mf_X4_goOn_7 : Cond.fieldLink RX4 7 "Lensbench$Table" "a" "D" ∈ wsX4_goOn := by decide +kernel
abbrev rm_X4_goOn : Room := { frames := 0, cells := 0, slots := 0, locals := 0 }
set_option maxHeartbeats 4000000 in
set_option maxRecDepth 100000 in
theorem m_X4_goOn (l : Launch) (D : va_G) (cI cD cB : ClassId) (a_t : Nat) (p1 : Int32) (c_t_a : UInt64) (c_t_b : UInt64) (c_t_c : UInt64) (c_t_d : UInt64) (R : UInt64 × UInt64) (h : f_X4_goOn p1 c_t_a c_t_b c_t_c c_t_d = some R) : Cv l yX4_goOn wsX4_goOn rm_X4_goOn D (TT cI cD cB) [.ref a_t, .int p1] [(a_t, .inr (6, [.double c_t_a, .double c_t_b, .double c_t_c, .double c_t_d]))] [(a_t, .inr (6, [.double R.1, .double R.2, .double c_t_c, .double c_t_d]))] 0 0 := by
  unfold f_X4_goOn at h
  refine st_v (cc := cX4_goOn) (maxL := 2) (by decide) rfl (Nat.le_of_ble_eq_true rfl) (fun p e s m av below meth c A Q ls hx hb hml hts hown hA hK hNM hZ hP hD hS hl hfin => ?_)
  have hown : s.vm.findClass RX4 = some m.cls := hown
  have hl : lv_has ls 2 [(0, .ref a_t), (1, .int p1)] := hl
  refine lv_aload_n hx hb dX4_goOn_0 rfl (lv_at hl 0 rfl) ?_
  refine lv_aload_n hx hb dX4_goOn_1 rfl (lv_at hl 0 rfl) ?_
  refine va_get (D := D) (ci := 6) (v := .double c_t_a) (C := RX4) (T := TX4) (N := 4) hx hb hts mc_X4_goOn_X4 hown hK hP 0 rfl rfl 0 (by decide) (hts _ mf_X4_goOn_7) (fun _ h9 => h9) rfl dX4_goOn_2 ?_
  refine lv_aload_n hx hb dX4_goOn_5 rfl (lv_at hl 0 rfl) ?_
  refine va_get (D := D) (ci := 6) (v := .double c_t_c) (C := RX4) (T := TX4) (N := 4) hx hb hts mc_X4_goOn_X4 hown hK hP 0 rfl rfl 2 (by decide) (hts _ mf_X4_goOn_16) (fun _ h9 => h9) rfl dX4_goOn_6 ?_
  refine lv_iload_n hx hb dX4_goOn_9 rfl (lv_at hl 1 rfl) ?_
  refine lv_i2d hx hb dX4_goOn_10 ?_
  obtain ⟨g1, h⟩ := gd_e h
  refine lv_dmul hx hb dX4_goOn_11 (n64_n g1) ?_
  obtain ⟨g2, h⟩ := gd_e h
  refine lv_dadd hx hb dX4_goOn_12 (n64_n g2) ?_
  refine va_put (D := D) (ci := 6) (v := .double (FP.dadd c_t_a (FP.dmul c_t_c (FP.i2d p1)))) (ty := .double) (C := RX4) (T := TX4) (N := 4) hx hb hts mc_X4_goOn_X4 tyX4 tyX4_ok nmX4 hown hK hP hD hS 0 rfl rfl 0 (by decide) (hts _ mf_X4_goOn_7) (fun _ h9 => h9) rfl (tyX4_ok 0 (by decide)) rfl rfl (Nat.le_of_ble_eq_true rfl) dX4_goOn_13 (fun H locs hP hD hS => ?_)
  have hP : va_P D vwCl [(a_t, .inr (6, [.double (FP.dadd c_t_a (FP.dmul c_t_c (FP.i2d p1))), .double c_t_b, .double c_t_c, .double c_t_d]))] H := hP
  have hD : va_D A [(a_t, .inr (6, [.double (FP.dadd c_t_a (FP.dmul c_t_c (FP.i2d p1))), .double c_t_b, .double c_t_c, .double c_t_d]))] := hD
  refine lv_aload_n hx hb dX4_goOn_16 rfl (lv_at hl 0 rfl) ?_
  refine lv_aload_n hx hb dX4_goOn_17 rfl (lv_at hl 0 rfl) ?_
  refine va_get (D := D) (ci := 6) (v := .double c_t_b) (C := RX4) (T := TX4) (N := 4) hx hb hts mc_X4_goOn_X4 hown hK hP 0 rfl rfl 1 (by decide) (hts _ mf_X4_goOn_13) (fun _ h9 => h9) rfl dX4_goOn_18 ?_
  refine lv_aload_n hx hb dX4_goOn_21 rfl (lv_at hl 0 rfl) ?_
  refine va_get (D := D) (ci := 6) (v := .double c_t_d) (C := RX4) (T := TX4) (N := 4) hx hb hts mc_X4_goOn_X4 hown hK hP 0 rfl rfl 3 (by decide) (hts _ mf_X4_goOn_19) (fun _ h9 => h9) rfl dX4_goOn_22 ?_
  refine lv_iload_n hx hb dX4_goOn_25 rfl (lv_at hl 1 rfl) ?_
  refine lv_i2d hx hb dX4_goOn_26 ?_
  obtain ⟨g3, h⟩ := gd_e h
  refine lv_dmul hx hb dX4_goOn_27 (n64_n g3) ?_
  obtain ⟨g4, h⟩ := gd_e h
  refine lv_dadd hx hb dX4_goOn_28 (n64_n g4) ?_
  refine va_put (D := D) (ci := 6) (v := .double (FP.dadd c_t_b (FP.dmul c_t_d (FP.i2d p1)))) (ty := .double) (C := RX4) (T := TX4) (N := 4) hx hb hts mc_X4_goOn_X4 tyX4 tyX4_ok nmX4 hown hK hP hD hS 0 rfl rfl 1 (by decide) (hts _ mf_X4_goOn_13) (fun _ h9 => h9) rfl (tyX4_ok 1 (by decide)) rfl rfl (Nat.le_of_ble_eq_true rfl) dX4_goOn_29 (fun H locs hP hD hS => ?_)
  have hP : va_P D vwCl [(a_t, .inr (6, [.double (FP.dadd c_t_a (FP.dmul c_t_c (FP.i2d p1))), .double (FP.dadd c_t_b (FP.dmul c_t_d (FP.i2d p1))), .double c_t_c, .double c_t_d]))] H := hP
  have hD : va_D A [(a_t, .inr (6, [.double (FP.dadd c_t_a (FP.dmul c_t_c (FP.i2d p1))), .double (FP.dadd c_t_b (FP.dmul c_t_d (FP.i2d p1))), .double c_t_c, .double c_t_d]))] := hD
  rw [← some_e h] at hfin
  exact hfin 32 _ _ _ dX4_goOn_32 hP hD hS
theorem mc_X2_weigh_X2 : ∀ w ∈ wsX20, w ∈ wsX2_weigh := by decide +kernel
theorem mf_X2_weigh_15 : Cond.fieldLink RX2 15 "Lensbench$Opening" "least" "D" ∈ wsX2_weigh := by decide +kernel
theorem mf_X2_weigh_9 : Cond.fieldLink RX2 9 "Lensbench$Opening" "position" "I" ∈ wsX2_weigh := by decide +kernel
theorem mk_X2_weigh_62 : Cond.constantDouble RX2 62 (4517329193108106637) ∈ wsX2_weigh := by decide +kernel
abbrev rm_X2_weigh : Room := { frames := 0, cells := 0, slots := 0, locals := 0 }
set_option maxHeartbeats 4000000 in
set_option maxRecDepth 100000 in
theorem m_X2_weigh (l : Launch) (D : va_G) (cI cD cB : ClassId) (a_t : Nat) (p1 : Int32) (p2 : Int32) (p3 : UInt64) (c_t_position : Int32) (c_t_least : UInt64) (R : Int32 × UInt64) (h : f_X2_weigh p1 p2 p3 c_t_position c_t_least = some R) : Cv l yX2_weigh wsX2_weigh rm_X2_weigh D (TT cI cD cB) [.ref a_t, .int p1, .int p2, .double p3] [(a_t, .inr (4, [.int c_t_position, .double c_t_least]))] [(a_t, .inr (4, [.int R.1, .double R.2]))] 0 0 := by
  unfold f_X2_weigh at h
  refine st_v (cc := cX2_weigh) (maxL := 7) (by decide) rfl (Nat.le_of_ble_eq_true rfl) (fun p e s m av below meth c A Q ls hx hb hml hts hown hA hK hNM hZ hP hD hS hl hfin => ?_)
  have hown : s.vm.findClass RX2 = some m.cls := hown
  have hl : lv_has ls 7 [(0, .ref a_t), (1, .int p1), (2, .int p2), (3, .double p3)] := hl
  refine lv_dload_n hx hb dX2_weigh_0 rfl (lv_at hl 3 rfl) ?_
  refine lv_ldc2d hx hb hown (hts _ mk_X2_weigh_62) dX2_weigh_1 ?_
  refine lv_dcmp hx hb dX2_weigh_4 ?_
  refine lv_if_ge (tgt := 9) hx hb dX2_weigh_5 (by decide) (fun q1 => ?_) (fun q1 => ?_)
  · replace h := ifp h q1
    refine lv_iload_n hx hb dX2_weigh_9 rfl (lv_at hl 2 rfl) ?_
    refine lv_i2d hx hb dX2_weigh_10 ?_
    refine lv_dload_n hx hb dX2_weigh_11 rfl (lv_at hl 3 rfl) ?_
    obtain ⟨g2, h⟩ := gd_e h
    refine lv_ddiv hx hb dX2_weigh_12 (n64_n g2) ?_
    refine lv_dstore (lv' := [(5, .double (FP.ddiv (FP.i2d p2) p3)), (0, .ref a_t), (1, .int p1), (2, .int p2), (3, .double p3)]) hx hb dX2_weigh_13 hl (by decide) rfl (fun ls hl => ?_)
    refine lv_aload_n hx hb dX2_weigh_15 rfl (lv_at hl 1 rfl) ?_
    refine va_get (D := D) (ci := 4) (v := .int c_t_position) (C := RX2) (T := TX2) (N := 2) hx hb hts mc_X2_weigh_X2 hown hK hP 0 rfl rfl 0 (by decide) (hts _ mf_X2_weigh_9) (fun _ h9 => h9) rfl dX2_weigh_16 ?_
    refine lv_iconst (v := (-1 : Int32)) hx hb dX2_weigh_19 (by decide) ?_
    refine lv_icmp_eq (tgt := 33) hx hb dX2_weigh_20 (by decide) (fun q3 => ?_) (fun q3 => ?_)
    · replace h := ifp h q3
      refine lv_aload_n hx hb dX2_weigh_33 rfl (lv_at hl 1 rfl) ?_
      refine lv_iload_n hx hb dX2_weigh_34 rfl (lv_at hl 2 rfl) ?_
      refine va_put (D := D) (ci := 4) (v := .int p1) (ty := .int) (C := RX2) (T := TX2) (N := 2) hx hb hts mc_X2_weigh_X2 tyX2 tyX2_ok nmX2 hown hK hP hD hS 0 rfl rfl 0 (by decide) (hts _ mf_X2_weigh_9) (fun _ h9 => h9) rfl (tyX2_ok 0 (by decide)) rfl rfl (Nat.le_of_ble_eq_true rfl) dX2_weigh_35 (fun H locs hP hD hS => ?_)
      have hP : va_P D vwCl [(a_t, .inr (4, [.int p1, .double c_t_least]))] H := hP
      have hD : va_D A [(a_t, .inr (4, [.int p1, .double c_t_least]))] := hD
      refine lv_aload_n hx hb dX2_weigh_38 rfl (lv_at hl 1 rfl) ?_
      refine lv_dload hx hb dX2_weigh_39 (lv_at hl 0 rfl) ?_
      refine va_put (D := D) (ci := 4) (v := .double (FP.ddiv (FP.i2d p2) p3)) (ty := .double) (C := RX2) (T := TX2) (N := 2) hx hb hts mc_X2_weigh_X2 tyX2 tyX2_ok nmX2 hown hK hP hD hS 0 rfl rfl 1 (by decide) (hts _ mf_X2_weigh_15) (fun _ h9 => h9) rfl (tyX2_ok 1 (by decide)) rfl rfl (Nat.le_of_ble_eq_true rfl) dX2_weigh_41 (fun H locs hP hD hS => ?_)
      have hP : va_P D vwCl [(a_t, .inr (4, [.int p1, .double (FP.ddiv (FP.i2d p2) p3)]))] H := hP
      have hD : va_D A [(a_t, .inr (4, [.int p1, .double (FP.ddiv (FP.i2d p2) p3)]))] := hD
      rw [← some_e h] at hfin
      exact hfin 44 _ _ _ dX2_weigh_44 hP hD hS
    · replace h := ifn h q3
      refine lv_dload hx hb dX2_weigh_23 (lv_at hl 0 rfl) ?_
      refine lv_aload_n hx hb dX2_weigh_25 rfl (lv_at hl 1 rfl) ?_
      refine va_get (D := D) (ci := 4) (v := .double c_t_least) (C := RX2) (T := TX2) (N := 2) hx hb hts mc_X2_weigh_X2 hown hK hP 0 rfl rfl 1 (by decide) (hts _ mf_X2_weigh_15) (fun _ h9 => h9) rfl dX2_weigh_26 ?_
      refine lv_dcmp hx hb dX2_weigh_29 ?_
      refine lv_if_ge (tgt := 44) hx hb dX2_weigh_30 (by decide) (fun q4 => ?_) (fun q4 => ?_)
      · replace h := ifp h q4
        rw [← some_e h] at hfin
        exact hfin 44 _ _ _ dX2_weigh_44 hP hD hS
      · replace h := ifn h q4
        refine lv_aload_n hx hb dX2_weigh_33 rfl (lv_at hl 1 rfl) ?_
        refine lv_iload_n hx hb dX2_weigh_34 rfl (lv_at hl 2 rfl) ?_
        refine va_put (D := D) (ci := 4) (v := .int p1) (ty := .int) (C := RX2) (T := TX2) (N := 2) hx hb hts mc_X2_weigh_X2 tyX2 tyX2_ok nmX2 hown hK hP hD hS 0 rfl rfl 0 (by decide) (hts _ mf_X2_weigh_9) (fun _ h9 => h9) rfl (tyX2_ok 0 (by decide)) rfl rfl (Nat.le_of_ble_eq_true rfl) dX2_weigh_35 (fun H locs hP hD hS => ?_)
        have hP : va_P D vwCl [(a_t, .inr (4, [.int p1, .double c_t_least]))] H := hP
        have hD : va_D A [(a_t, .inr (4, [.int p1, .double c_t_least]))] := hD
        refine lv_aload_n hx hb dX2_weigh_38 rfl (lv_at hl 1 rfl) ?_
        refine lv_dload hx hb dX2_weigh_39 (lv_at hl 0 rfl) ?_
        refine va_put (D := D) (ci := 4) (v := .double (FP.ddiv (FP.i2d p2) p3)) (ty := .double) (C := RX2) (T := TX2) (N := 2) hx hb hts mc_X2_weigh_X2 tyX2 tyX2_ok nmX2 hown hK hP hD hS 0 rfl rfl 1 (by decide) (hts _ mf_X2_weigh_15) (fun _ h9 => h9) rfl (tyX2_ok 1 (by decide)) rfl rfl (Nat.le_of_ble_eq_true rfl) dX2_weigh_41 (fun H locs hP hD hS => ?_)
        have hP : va_P D vwCl [(a_t, .inr (4, [.int p1, .double (FP.ddiv (FP.i2d p2) p3)]))] H := hP
        have hD : va_D A [(a_t, .inr (4, [.int p1, .double (FP.ddiv (FP.i2d p2) p3)]))] := hD
        rw [← some_e h] at hfin
        exact hfin 44 _ _ _ dX2_weigh_44 hP hD hS
  · replace h := ifn h q1
    rw [← some_e h] at hfin
    exact hfin 8 _ _ _ dX2_weigh_8 hP hD hS
theorem mc_X4_bend_X4 : ∀ w ∈ wsX40, w ∈ wsX4_bend := by decide +kernel
theorem mf_X4_bend_13 : Cond.fieldLink RX4 13 "Lensbench$Table" "b" "D" ∈ wsX4_bend := by decide +kernel
theorem mf_X4_bend_16 : Cond.fieldLink RX4 16 "Lensbench$Table" "c" "D" ∈ wsX4_bend := by decide +kernel
theorem mf_X4_bend_19 : Cond.fieldLink RX4 19 "Lensbench$Table" "d" "D" ∈ wsX4_bend := by decide +kernel
theorem mf_X4_bend_7 : Cond.fieldLink RX4 7 "Lensbench$Table" "a" "D" ∈ wsX4_bend := by decide +kernel
abbrev rm_X4_bend : Room := { frames := 0, cells := 0, slots := 0, locals := 0 }
set_option maxHeartbeats 4000000 in
set_option maxRecDepth 100000 in
theorem m_X4_bend (l : Launch) (D : va_G) (cI cD cB : ClassId) (a_t : Nat) (p1 : UInt64) (c_t_a : UInt64) (c_t_b : UInt64) (c_t_c : UInt64) (c_t_d : UInt64) (R : UInt64 × UInt64) (h : f_X4_bend p1 c_t_a c_t_b c_t_c c_t_d = some R) : Cv l yX4_bend wsX4_bend rm_X4_bend D (TT cI cD cB) [.ref a_t, .double p1] [(a_t, .inr (6, [.double c_t_a, .double c_t_b, .double c_t_c, .double c_t_d]))] [(a_t, .inr (6, [.double c_t_a, .double c_t_b, .double R.1, .double R.2]))] 0 0 := by
  unfold f_X4_bend at h
  refine st_v (cc := cX4_bend) (maxL := 3) (by decide) rfl (Nat.le_of_ble_eq_true rfl) (fun p e s m av below meth c A Q ls hx hb hml hts hown hA hK hNM hZ hP hD hS hl hfin => ?_)
  have hown : s.vm.findClass RX4 = some m.cls := hown
  have hl : lv_has ls 3 [(0, .ref a_t), (1, .double p1)] := hl
  refine lv_aload_n hx hb dX4_bend_0 rfl (lv_at hl 0 rfl) ?_
  refine lv_aload_n hx hb dX4_bend_1 rfl (lv_at hl 0 rfl) ?_
  refine va_get (D := D) (ci := 6) (v := .double c_t_c) (C := RX4) (T := TX4) (N := 4) hx hb hts mc_X4_bend_X4 hown hK hP 0 rfl rfl 2 (by decide) (hts _ mf_X4_bend_16) (fun _ h9 => h9) rfl dX4_bend_2 ?_
  refine lv_aload_n hx hb dX4_bend_5 rfl (lv_at hl 0 rfl) ?_
  refine va_get (D := D) (ci := 6) (v := .double c_t_a) (C := RX4) (T := TX4) (N := 4) hx hb hts mc_X4_bend_X4 hown hK hP 0 rfl rfl 0 (by decide) (hts _ mf_X4_bend_7) (fun _ h9 => h9) rfl dX4_bend_6 ?_
  refine lv_dload_n hx hb dX4_bend_9 rfl (lv_at hl 1 rfl) ?_
  obtain ⟨g1, h⟩ := gd_e h
  refine lv_dmul hx hb dX4_bend_10 (n64_n g1) ?_
  obtain ⟨g2, h⟩ := gd_e h
  refine lv_dsub hx hb dX4_bend_11 (n64_n g2) ?_
  refine va_put (D := D) (ci := 6) (v := .double (FP.dsub c_t_c (FP.dmul c_t_a p1))) (ty := .double) (C := RX4) (T := TX4) (N := 4) hx hb hts mc_X4_bend_X4 tyX4 tyX4_ok nmX4 hown hK hP hD hS 0 rfl rfl 2 (by decide) (hts _ mf_X4_bend_16) (fun _ h9 => h9) rfl (tyX4_ok 2 (by decide)) rfl rfl (Nat.le_of_ble_eq_true rfl) dX4_bend_12 (fun H locs hP hD hS => ?_)
  have hP : va_P D vwCl [(a_t, .inr (6, [.double c_t_a, .double c_t_b, .double (FP.dsub c_t_c (FP.dmul c_t_a p1)), .double c_t_d]))] H := hP
  have hD : va_D A [(a_t, .inr (6, [.double c_t_a, .double c_t_b, .double (FP.dsub c_t_c (FP.dmul c_t_a p1)), .double c_t_d]))] := hD
  refine lv_aload_n hx hb dX4_bend_15 rfl (lv_at hl 0 rfl) ?_
  refine lv_aload_n hx hb dX4_bend_16 rfl (lv_at hl 0 rfl) ?_
  refine va_get (D := D) (ci := 6) (v := .double c_t_d) (C := RX4) (T := TX4) (N := 4) hx hb hts mc_X4_bend_X4 hown hK hP 0 rfl rfl 3 (by decide) (hts _ mf_X4_bend_19) (fun _ h9 => h9) rfl dX4_bend_17 ?_
  refine lv_aload_n hx hb dX4_bend_20 rfl (lv_at hl 0 rfl) ?_
  refine va_get (D := D) (ci := 6) (v := .double c_t_b) (C := RX4) (T := TX4) (N := 4) hx hb hts mc_X4_bend_X4 hown hK hP 0 rfl rfl 1 (by decide) (hts _ mf_X4_bend_13) (fun _ h9 => h9) rfl dX4_bend_21 ?_
  refine lv_dload_n hx hb dX4_bend_24 rfl (lv_at hl 1 rfl) ?_
  obtain ⟨g3, h⟩ := gd_e h
  refine lv_dmul hx hb dX4_bend_25 (n64_n g3) ?_
  obtain ⟨g4, h⟩ := gd_e h
  refine lv_dsub hx hb dX4_bend_26 (n64_n g4) ?_
  refine va_put (D := D) (ci := 6) (v := .double (FP.dsub c_t_d (FP.dmul c_t_b p1))) (ty := .double) (C := RX4) (T := TX4) (N := 4) hx hb hts mc_X4_bend_X4 tyX4 tyX4_ok nmX4 hown hK hP hD hS 0 rfl rfl 3 (by decide) (hts _ mf_X4_bend_19) (fun _ h9 => h9) rfl (tyX4_ok 3 (by decide)) rfl rfl (Nat.le_of_ble_eq_true rfl) dX4_bend_27 (fun H locs hP hD hS => ?_)
  have hP : va_P D vwCl [(a_t, .inr (6, [.double c_t_a, .double c_t_b, .double (FP.dsub c_t_c (FP.dmul c_t_a p1)), .double (FP.dsub c_t_d (FP.dmul c_t_b p1))]))] H := hP
  have hD : va_D A [(a_t, .inr (6, [.double c_t_a, .double c_t_b, .double (FP.dsub c_t_c (FP.dmul c_t_a p1)), .double (FP.dsub c_t_d (FP.dmul c_t_b p1))]))] := hD
  rw [← some_e h] at hfin
  exact hfin 30 _ _ _ dX4_bend_30 hP hD hS
