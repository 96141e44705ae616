theorem mc_X8_next_X8 : ∀ w ∈ wsX80, w ∈ wsX8_next := by decide +kernel
theorem mf_X8_next_22 : Cond.fieldLink RX8 22 "LensbenchModel" "screen" "I" ∈ wsX8_next := by decide +kernel
theorem mf_X8_next_32 : Cond.fieldLink RX8 32 "LensbenchModel" "pieces" "I" ∈ wsX8_next := by decide +kernel
theorem mf_X8_next_9 : Cond.fieldLink RX8 9 "LensbenchModel" "place" "[I" ∈ wsX8_next := by decide +kernel
abbrev rm_X8_next : Room := { frames := 0, cells := 0, slots := 0, locals := 0 }
set_option maxHeartbeats 4000000 in
set_option maxRecDepth 100000 in
theorem m_X8_next (l : Launch) (D : va_G) (cI cD cB : ClassId) (a_t : Nat) (a_t_place : Nat) (a_t_half : Nat) (a_t_power : Nat) (a_t_glass : Nat) (p1 : Int32) (c_t_thrown : Int32) (c_t_pieces : Int32) (c_t_thing : Int32) (c_t_screen : Int32) (c_t_tall : Int32) (c_t_refused : Int32) (c_t_height : UInt64) (c_t_slope : UInt64) (c_t_cut : Int32) (c_t_sum : Int64) (c_t_place : Nat → Int32) (R : Int32) (h : f_X8_next p1 c_t_pieces c_t_screen c_t_place = some R) : Ci l yX8_next wsX8_next rm_X8_next D (TT cI cD cB) [.ref a_t, .int p1] [(a_t, .inr (10, [.int c_t_thrown, .int c_t_pieces, .ref a_t_place, .ref a_t_half, .ref a_t_power, .ref a_t_glass, .int c_t_thing, .int c_t_screen, .int c_t_tall, .int c_t_refused, .double c_t_height, .double c_t_slope, .int c_t_cut, .long c_t_sum])), (a_t_place, .inl (cI, 8, .inl c_t_place))] [(a_t, .inr (10, [.int c_t_thrown, .int c_t_pieces, .ref a_t_place, .ref a_t_half, .ref a_t_power, .ref a_t_glass, .int c_t_thing, .int c_t_screen, .int c_t_tall, .int c_t_refused, .double c_t_height, .double c_t_slope, .int c_t_cut, .long c_t_sum])), (a_t_place, .inl (cI, 8, .inl c_t_place))] R 0 0 := by
  unfold f_X8_next at h
  refine st_i (cc := cX8_next) (maxL := 4) (by decide) rfl (Nat.le_of_ble_eq_true rfl) (fun p e s m av below meth c A Q ls hx hb hml hts hown hA hK hNM hZ hP hD hS hl hfin => ?_)
  have hown : s.vm.findClass RX8 = some m.cls := hown
  have hl : lv_has ls 4 [(0, .ref a_t), (1, .int p1)] := hl
  refine lv_iconst (v := (-1 : Int32)) hx hb dX8_next_0 (by decide) ?_
  refine lv_istore_n (lv' := [(2, .int (-1 : Int32)), (0, .ref a_t), (1, .int p1)]) hx hb dX8_next_1 rfl hl (by decide) rfl (fun ls hl => ?_)
  refine lv_iconst (v := (0 : Int32)) hx hb dX8_next_2 (by decide) ?_
  refine lv_istore_n (lv' := [(3, .int (0 : Int32)), (2, .int (-1 : Int32)), (0, .ref a_t), (1, .int p1)]) hx hb dX8_next_3 rfl hl (by decide) rfl (fun ls hl => ?_)
  have LOOP1 : ∀ (n1 : Nat) (s1 : Int32 × Int32) (H : Heap) (locs : List Loc) (ls : Array Slot), va_P D vwCl [(a_t, .inr (10, [.int c_t_thrown, .int c_t_pieces, .ref a_t_place, .ref a_t_half, .ref a_t_power, .ref a_t_glass, .int c_t_thing, .int c_t_screen, .int c_t_tall, .int c_t_refused, .double c_t_height, .double c_t_slope, .int c_t_cut, .long c_t_sum])), (a_t_place, .inl (cI, 8, .inl c_t_place))] H → va_D A [(a_t, .inr (10, [.int c_t_thrown, .int c_t_pieces, .ref a_t_place, .ref a_t_half, .ref a_t_power, .ref a_t_glass, .int c_t_thing, .int c_t_screen, .int c_t_tall, .int c_t_refused, .double c_t_height, .double c_t_slope, .int c_t_cut, .long c_t_sum])), (a_t_place, .inl (cI, 8, .inl c_t_place))] → va_S A s.heap H locs → lv_has ls 4 [(3, .int s1.1), (2, .int s1.2), (0, .ref a_t), (1, .int p1)] → lp (f_X8_next_b1 p1 c_t_pieces c_t_screen c_t_place) n1 s1 = some R → W p l e rm_X8_next s m av below meth c H locs 0 0 Q (F0 m 4 ls []) := by
    intro n1
    induction n1 with
    | zero => intro s1 H locs ls hP hD hS hl h; exact lp_0 h
    | succ n1 ih1 =>
      intro s1 H locs ls hP hD hS hl h
      replace h := lp_s h
      unfold f_X8_next_b1 at h
      refine lv_iload_n hx hb dX8_next_4 rfl (lv_at hl 0 rfl) ?_
      refine lv_aload_n hx hb dX8_next_5 rfl (lv_at hl 2 rfl) ?_
      refine va_get (D := D) (ci := 10) (v := .int c_t_pieces) (C := RX8) (T := TX8) (N := 14) hx hb hts mc_X8_next_X8 hown hK hP 0 rfl rfl 1 (by decide) (hts _ mf_X8_next_32) (fun _ h9 => h9) rfl dX8_next_6 ?_
      refine lv_icmp_ge (tgt := 63) hx hb dX8_next_9 (by decide) (fun q1 => ?_) (fun q1 => ?_)
      · replace h := ifp h q1
        refine lv_iload_n hx hb dX8_next_63 rfl (lv_at hl 1 rfl) ?_
        rw [← some_e h] at hfin
        exact hfin 64 _ _ _ dX8_next_64 rfl hP hD hS
      · replace h := ifn h q1
        refine lv_aload_n hx hb dX8_next_12 rfl (lv_at hl 2 rfl) ?_
        refine va_get (D := D) (ci := 10) (v := .ref a_t_place) (C := RX8) (T := TX8) (N := 14) hx hb hts mc_X8_next_X8 hown hK hP 0 rfl rfl 2 (by decide) (hts _ mf_X8_next_9) (fun _ h9 => h9) rfl dX8_next_13 ?_
        refine lv_iload_n hx hb dX8_next_16 rfl (lv_at hl 0 rfl) ?_
        obtain ⟨g2, h⟩ := gd_e h
        refine va_iald hx hb hK hP 1 0 rfl rfl (vin_in g2) dX8_next_17 ?_
        refine lv_iload_n hx hb dX8_next_18 rfl (lv_at hl 3 rfl) ?_
        refine lv_icmp_le (tgt := 57) hx hb dX8_next_19 (by decide) (fun q3 => ?_) (fun q3 => ?_)
        · replace h := ifp h q3
          refine lv_iinc (v := (s1.1 + (1 : Int32))) (lv' := [(3, .int (s1.1 + (1 : Int32))), (2, .int s1.2), (0, .ref a_t), (1, .int p1)]) hx hb dX8_next_57 hl (k := 0) rfl rfl (by decide) rfl (fun ls hl => ?_)
          refine lv_goto (tgt := 4) hx hb dX8_next_60 (by decide) ?_
          exact ih1 ((s1.1 + (1 : Int32)), s1.2) _ _ _ hP hD hS (lv_sub hl [0, 1, 2, 3] rfl) h
        · replace h := ifn h q3
          refine lv_aload_n hx hb dX8_next_22 rfl (lv_at hl 2 rfl) ?_
          refine va_get (D := D) (ci := 10) (v := .ref a_t_place) (C := RX8) (T := TX8) (N := 14) hx hb hts mc_X8_next_X8 hown hK hP 0 rfl rfl 2 (by decide) (hts _ mf_X8_next_9) (fun _ h9 => h9) rfl dX8_next_23 ?_
          refine lv_iload_n hx hb dX8_next_26 rfl (lv_at hl 0 rfl) ?_
          obtain ⟨g4, h⟩ := gd_e h
          refine va_iald hx hb hK hP 1 0 rfl rfl (vin_in g4) dX8_next_27 ?_
          refine lv_aload_n hx hb dX8_next_28 rfl (lv_at hl 2 rfl) ?_
          refine va_get (D := D) (ci := 10) (v := .int c_t_screen) (C := RX8) (T := TX8) (N := 14) hx hb hts mc_X8_next_X8 hown hK hP 0 rfl rfl 7 (by decide) (hts _ mf_X8_next_22) (fun _ h9 => h9) rfl dX8_next_29 ?_
          refine lv_icmp_ge (tgt := 57) hx hb dX8_next_32 (by decide) (fun q5 => ?_) (fun q5 => ?_)
          · replace h := ifp h q5
            refine lv_iinc (v := (s1.1 + (1 : Int32))) (lv' := [(3, .int (s1.1 + (1 : Int32))), (2, .int s1.2), (0, .ref a_t), (1, .int p1)]) hx hb dX8_next_57 hl (k := 0) rfl rfl (by decide) rfl (fun ls hl => ?_)
            refine lv_goto (tgt := 4) hx hb dX8_next_60 (by decide) ?_
            exact ih1 ((s1.1 + (1 : Int32)), s1.2) _ _ _ hP hD hS (lv_sub hl [0, 1, 2, 3] rfl) h
          · replace h := ifn h q5
            refine lv_iload_n hx hb dX8_next_35 rfl (lv_at hl 1 rfl) ?_
            refine lv_iconst (v := (-1 : Int32)) hx hb dX8_next_36 (by decide) ?_
            refine lv_icmp_eq (tgt := 55) hx hb dX8_next_37 (by decide) (fun q6 => ?_) (fun q6 => ?_)
            · replace h := ifp h q6
              refine lv_iload_n hx hb dX8_next_55 rfl (lv_at hl 0 rfl) ?_
              refine lv_istore_n (lv' := [(2, .int s1.1), (3, .int s1.1), (0, .ref a_t), (1, .int p1)]) hx hb dX8_next_56 rfl hl (by decide) rfl (fun ls hl => ?_)
              refine lv_iinc (v := (s1.1 + (1 : Int32))) (lv' := [(3, .int (s1.1 + (1 : Int32))), (2, .int s1.1), (0, .ref a_t), (1, .int p1)]) hx hb dX8_next_57 hl (k := 1) rfl rfl (by decide) rfl (fun ls hl => ?_)
              refine lv_goto (tgt := 4) hx hb dX8_next_60 (by decide) ?_
              exact ih1 ((s1.1 + (1 : Int32)), s1.1) _ _ _ hP hD hS (lv_sub hl [0, 1, 2, 3] rfl) h
            · replace h := ifn h q6
              refine lv_aload_n hx hb dX8_next_40 rfl (lv_at hl 2 rfl) ?_
              refine va_get (D := D) (ci := 10) (v := .ref a_t_place) (C := RX8) (T := TX8) (N := 14) hx hb hts mc_X8_next_X8 hown hK hP 0 rfl rfl 2 (by decide) (hts _ mf_X8_next_9) (fun _ h9 => h9) rfl dX8_next_41 ?_
              refine lv_iload_n hx hb dX8_next_44 rfl (lv_at hl 0 rfl) ?_
              obtain ⟨g7, h⟩ := gd_e h
              refine va_iald hx hb hK hP 1 0 rfl rfl (vin_in g7) dX8_next_45 ?_
              refine lv_aload_n hx hb dX8_next_46 rfl (lv_at hl 2 rfl) ?_
              refine va_get (D := D) (ci := 10) (v := .ref a_t_place) (C := RX8) (T := TX8) (N := 14) hx hb hts mc_X8_next_X8 hown hK hP 0 rfl rfl 2 (by decide) (hts _ mf_X8_next_9) (fun _ h9 => h9) rfl dX8_next_47 ?_
              refine lv_iload_n hx hb dX8_next_50 rfl (lv_at hl 1 rfl) ?_
              obtain ⟨g8, h⟩ := gd_e h
              refine va_iald hx hb hK hP 1 0 rfl rfl (vin_in g8) dX8_next_51 ?_
              refine lv_icmp_ge (tgt := 57) hx hb dX8_next_52 (by decide) (fun q9 => ?_) (fun q9 => ?_)
              · replace h := ifp h q9
                refine lv_iinc (v := (s1.1 + (1 : Int32))) (lv' := [(3, .int (s1.1 + (1 : Int32))), (2, .int s1.2), (0, .ref a_t), (1, .int p1)]) hx hb dX8_next_57 hl (k := 0) rfl rfl (by decide) rfl (fun ls hl => ?_)
                refine lv_goto (tgt := 4) hx hb dX8_next_60 (by decide) ?_
                exact ih1 ((s1.1 + (1 : Int32)), s1.2) _ _ _ hP hD hS (lv_sub hl [0, 1, 2, 3] rfl) h
              · replace h := ifn h q9
                refine lv_iload_n hx hb dX8_next_55 rfl (lv_at hl 0 rfl) ?_
                refine lv_istore_n (lv' := [(2, .int s1.1), (3, .int s1.1), (0, .ref a_t), (1, .int p1)]) hx hb dX8_next_56 rfl hl (by decide) rfl (fun ls hl => ?_)
                refine lv_iinc (v := (s1.1 + (1 : Int32))) (lv' := [(3, .int (s1.1 + (1 : Int32))), (2, .int s1.1), (0, .ref a_t), (1, .int p1)]) hx hb dX8_next_57 hl (k := 1) rfl rfl (by decide) rfl (fun ls hl => ?_)
                refine lv_goto (tgt := 4) hx hb dX8_next_60 (by decide) ?_
                exact ih1 ((s1.1 + (1 : Int32)), s1.1) _ _ _ hP hD hS (lv_sub hl [0, 1, 2, 3] rfl) h
  exact LOOP1 1000 ((0 : Int32), (-1 : Int32)) _ _ _ hP hD hS hl h
abbrev rm_X8_plain : Room := { frames := 0, cells := 0, slots := 0, locals := 0 }
set_option maxHeartbeats 4000000 in
set_option maxRecDepth 100000 in
theorem m_X8_plain (l : Launch) (D : va_G) (cI cD cB : ClassId) (p1 : UInt64) (R : UInt64) (h : f_X8_plain p1 = some R) : Cd l yX8_plain wsX8_plain rm_X8_plain D (TT cI cD cB) [.double p1] [] [] R 0 0 := by
  unfold f_X8_plain at h
  refine st_d (cc := cX8_plain) (maxL := 2) (by decide) rfl (Nat.le_of_ble_eq_true rfl) (fun p e s m av below meth c A Q ls hx hb hml hts hown hA hK hNM hZ hP hD hS hl hfin => ?_)
  have hown : s.vm.findClass RX8 = some m.cls := hown
  have hl : lv_has ls 2 [(0, .double p1)] := hl
  refine lv_dload_n hx hb dX8_plain_0 rfl (lv_at hl 0 rfl) ?_
  refine lv_dconst0 hx hb dX8_plain_1 ?_
  refine lv_dcmp hx hb dX8_plain_2 ?_
  refine lv_if_ne (tgt := 10) hx hb dX8_plain_3 (by decide) (fun q1 => ?_) (fun q1 => ?_)
  · replace h := ifn h q1
    refine lv_dload_n hx hb dX8_plain_10 rfl (lv_at hl 0 rfl) ?_
    rw [← some_e h] at hfin
    exact hfin 11 _ _ _ dX8_plain_11 hP hD hS
  · replace h := ifp h q1
    refine lv_dconst0 hx hb dX8_plain_6 ?_
    refine lv_goto (tgt := 11) hx hb dX8_plain_7 (by decide) ?_
    rw [← some_e h] at hfin
    exact hfin 11 _ _ _ dX8_plain_11 hP hD hS
theorem mc_X8_strengthNow_X8 : ∀ w ∈ wsX80, w ∈ wsX8_strengthNow := by decide +kernel
theorem mf_X8_strengthNow_16 : Cond.fieldLink RX8 16 "LensbenchModel" "power" "[I" ∈ wsX8_strengthNow := by decide +kernel
theorem mf_X8_strengthNow_19 : Cond.fieldLink RX8 19 "LensbenchModel" "glass" "[I" ∈ wsX8_strengthNow := by decide +kernel
theorem mk_X8_strengthNow_35 : Cond.constantDouble RX8 35 (4581421828931458171) ∈ wsX8_strengthNow := by decide +kernel
theorem mk_X8_strengthNow_37 : Cond.constantDouble RX8 37 (4587366580439587226) ∈ wsX8_strengthNow := by decide +kernel
theorem mk_X8_strengthNow_39 : Cond.constantDouble RX8 39 (4636737291354636288) ∈ wsX8_strengthNow := by decide +kernel
abbrev rm_X8_strengthNow : Room := { frames := 0, cells := 0, slots := 0, locals := 0 }
set_option maxHeartbeats 4000000 in
set_option maxRecDepth 100000 in
theorem m_X8_strengthNow (l : Launch) (D : va_G) (cI cD cB : ClassId) (a_t : Nat) (a_t_place : Nat) (a_t_half : Nat) (a_t_power : Nat) (a_t_glass : Nat) (p1 : Int32) (p2 : Int32) (c_t_thrown : Int32) (c_t_pieces : Int32) (c_t_thing : Int32) (c_t_screen : Int32) (c_t_tall : Int32) (c_t_refused : Int32) (c_t_height : UInt64) (c_t_slope : UInt64) (c_t_cut : Int32) (c_t_sum : Int64) (c_t_power : Nat → Int32) (c_t_glass : Nat → Int32) (R : UInt64) (h : f_X8_strengthNow p1 p2 c_t_power c_t_glass = some R) : Cd l yX8_strengthNow wsX8_strengthNow rm_X8_strengthNow D (TT cI cD cB) [.ref a_t, .int p1, .int p2] [(a_t, .inr (10, [.int c_t_thrown, .int c_t_pieces, .ref a_t_place, .ref a_t_half, .ref a_t_power, .ref a_t_glass, .int c_t_thing, .int c_t_screen, .int c_t_tall, .int c_t_refused, .double c_t_height, .double c_t_slope, .int c_t_cut, .long c_t_sum])), (a_t_power, .inl (cI, 8, .inl c_t_power)), (a_t_glass, .inl (cI, 8, .inl c_t_glass))] [(a_t, .inr (10, [.int c_t_thrown, .int c_t_pieces, .ref a_t_place, .ref a_t_half, .ref a_t_power, .ref a_t_glass, .int c_t_thing, .int c_t_screen, .int c_t_tall, .int c_t_refused, .double c_t_height, .double c_t_slope, .int c_t_cut, .long c_t_sum])), (a_t_power, .inl (cI, 8, .inl c_t_power)), (a_t_glass, .inl (cI, 8, .inl c_t_glass))] R 0 0 := by
  unfold f_X8_strengthNow at h
  refine st_d (cc := cX8_strengthNow) (maxL := 7) (by decide) rfl (Nat.le_of_ble_eq_true rfl) (fun p e s m av below meth c A Q ls hx hb hml hts hown hA hK hNM hZ hP hD hS hl hfin => ?_)
  have hown : s.vm.findClass RX8 = some m.cls := hown
  have hl : lv_has ls 7 [(0, .ref a_t), (1, .int p1), (2, .int p2)] := hl
  refine lv_aload_n hx hb dX8_strengthNow_0 rfl (lv_at hl 0 rfl) ?_
  refine va_get (D := D) (ci := 10) (v := .ref a_t_power) (C := RX8) (T := TX8) (N := 14) hx hb hts mc_X8_strengthNow_X8 hown hK hP 0 rfl rfl 4 (by decide) (hts _ mf_X8_strengthNow_16) (fun _ h9 => h9) rfl dX8_strengthNow_1 ?_
  refine lv_iload_n hx hb dX8_strengthNow_4 rfl (lv_at hl 1 rfl) ?_
  obtain ⟨g1, h⟩ := gd_e h
  refine va_iald hx hb hK hP 1 0 rfl rfl (vin_in g1) dX8_strengthNow_5 ?_
  refine lv_if_ne (tgt := 11) hx hb dX8_strengthNow_6 (by decide) (fun q2 => ?_) (fun q2 => ?_)
  · replace h := ifn h q2
    refine lv_aload_n hx hb dX8_strengthNow_11 rfl (lv_at hl 0 rfl) ?_
    refine va_get (D := D) (ci := 10) (v := .ref a_t_glass) (C := RX8) (T := TX8) (N := 14) hx hb hts mc_X8_strengthNow_X8 hown hK hP 0 rfl rfl 5 (by decide) (hts _ mf_X8_strengthNow_19) (fun _ h9 => h9) rfl dX8_strengthNow_12 ?_
    refine lv_iload_n hx hb dX8_strengthNow_15 rfl (lv_at hl 1 rfl) ?_
    obtain ⟨g3, h⟩ := gd_e h
    refine va_iald hx hb hK hP 2 0 rfl rfl (vin_in g3) dX8_strengthNow_16 ?_
    refine lv_if_ne (tgt := 24) hx hb dX8_strengthNow_17 (by decide) (fun q4 => ?_) (fun q4 => ?_)
    · replace h := ifn h q4
      refine lv_aload_n hx hb dX8_strengthNow_24 rfl (lv_at hl 0 rfl) ?_
      refine va_get (D := D) (ci := 10) (v := .ref a_t_glass) (C := RX8) (T := TX8) (N := 14) hx hb hts mc_X8_strengthNow_X8 hown hK hP 0 rfl rfl 5 (by decide) (hts _ mf_X8_strengthNow_19) (fun _ h9 => h9) rfl dX8_strengthNow_25 ?_
      refine lv_iload_n hx hb dX8_strengthNow_28 rfl (lv_at hl 1 rfl) ?_
      obtain ⟨g5, h⟩ := gd_e h
      refine va_iald hx hb hK hP 2 0 rfl rfl (vin_in g5) dX8_strengthNow_29 ?_
      refine lv_iconst (v := (1 : Int32)) hx hb dX8_strengthNow_30 (by decide) ?_
      refine lv_icmp_ne (tgt := 40) hx hb dX8_strengthNow_31 (by decide) (fun q6 => ?_) (fun q6 => ?_)
      · replace h := ifn h q6
        refine lv_ldc2d hx hb hown (hts _ mk_X8_strengthNow_37) dX8_strengthNow_40 ?_
        refine lv_dstore_n (lv' := [(3, .double (4587366580439587226 : UInt64)), (0, .ref a_t), (1, .int p1), (2, .int p2)]) hx hb dX8_strengthNow_43 rfl hl (by decide) rfl (fun ls hl => ?_)
        refine lv_dconst1 hx hb dX8_strengthNow_44 ?_
        refine lv_iload_n hx hb dX8_strengthNow_45 rfl (lv_at hl 3 rfl) ?_
        refine lv_iconst (v := (1 : Int32)) hx hb dX8_strengthNow_46 (by decide) ?_
        refine lv_isub hx hb dX8_strengthNow_47 ?_
        refine lv_i2d hx hb dX8_strengthNow_48 ?_
        refine lv_dload_n hx hb dX8_strengthNow_49 rfl (lv_at hl 0 rfl) ?_
        obtain ⟨g7, h⟩ := gd_e h
        refine lv_dmul hx hb dX8_strengthNow_50 (n64_n g7) ?_
        obtain ⟨g8, h⟩ := gd_e h
        refine lv_dadd hx hb dX8_strengthNow_51 (n64_n g8) ?_
        refine lv_dstore (lv' := [(5, .double (FP.dadd FP.dconst1 (FP.dmul (FP.i2d (p2 - (1 : Int32))) (4587366580439587226 : UInt64)))), (3, .double (4587366580439587226 : UInt64)), (0, .ref a_t), (1, .int p1), (2, .int p2)]) hx hb dX8_strengthNow_52 hl (by decide) rfl (fun ls hl => ?_)
        refine lv_aload_n hx hb dX8_strengthNow_54 rfl (lv_at hl 2 rfl) ?_
        refine va_get (D := D) (ci := 10) (v := .ref a_t_power) (C := RX8) (T := TX8) (N := 14) hx hb hts mc_X8_strengthNow_X8 hown hK hP 0 rfl rfl 4 (by decide) (hts _ mf_X8_strengthNow_16) (fun _ h9 => h9) rfl dX8_strengthNow_55 ?_
        refine lv_iload_n hx hb dX8_strengthNow_58 rfl (lv_at hl 3 rfl) ?_
        obtain ⟨g9, h⟩ := gd_e h
        refine va_iald hx hb hK hP 1 0 rfl rfl (vin_in g9) dX8_strengthNow_59 ?_
        refine lv_i2d hx hb dX8_strengthNow_60 ?_
        refine lv_ldc2d hx hb hown (hts _ mk_X8_strengthNow_39) dX8_strengthNow_61 ?_
        obtain ⟨g10, h⟩ := gd_e h
        refine lv_ddiv hx hb dX8_strengthNow_64 (n64_n g10) ?_
        refine lv_dload hx hb dX8_strengthNow_65 (lv_at hl 0 rfl) ?_
        obtain ⟨g11, h⟩ := gd_e h
        refine lv_dmul hx hb dX8_strengthNow_67 (n64_n g11) ?_
        rw [← some_e h] at hfin
        exact hfin 68 _ _ _ dX8_strengthNow_68 hP hD hS
      · replace h := ifp h q6
        refine lv_ldc2d hx hb hown (hts _ mk_X8_strengthNow_35) dX8_strengthNow_34 ?_
        refine lv_goto (tgt := 43) hx hb dX8_strengthNow_37 (by decide) ?_
        refine lv_dstore_n (lv' := [(3, .double (4581421828931458171 : UInt64)), (0, .ref a_t), (1, .int p1), (2, .int p2)]) hx hb dX8_strengthNow_43 rfl hl (by decide) rfl (fun ls hl => ?_)
        refine lv_dconst1 hx hb dX8_strengthNow_44 ?_
        refine lv_iload_n hx hb dX8_strengthNow_45 rfl (lv_at hl 3 rfl) ?_
        refine lv_iconst (v := (1 : Int32)) hx hb dX8_strengthNow_46 (by decide) ?_
        refine lv_isub hx hb dX8_strengthNow_47 ?_
        refine lv_i2d hx hb dX8_strengthNow_48 ?_
        refine lv_dload_n hx hb dX8_strengthNow_49 rfl (lv_at hl 0 rfl) ?_
        obtain ⟨g12, h⟩ := gd_e h
        refine lv_dmul hx hb dX8_strengthNow_50 (n64_n g12) ?_
        obtain ⟨g13, h⟩ := gd_e h
        refine lv_dadd hx hb dX8_strengthNow_51 (n64_n g13) ?_
        refine lv_dstore (lv' := [(5, .double (FP.dadd FP.dconst1 (FP.dmul (FP.i2d (p2 - (1 : Int32))) (4581421828931458171 : UInt64)))), (3, .double (4581421828931458171 : UInt64)), (0, .ref a_t), (1, .int p1), (2, .int p2)]) hx hb dX8_strengthNow_52 hl (by decide) rfl (fun ls hl => ?_)
        refine lv_aload_n hx hb dX8_strengthNow_54 rfl (lv_at hl 2 rfl) ?_
        refine va_get (D := D) (ci := 10) (v := .ref a_t_power) (C := RX8) (T := TX8) (N := 14) hx hb hts mc_X8_strengthNow_X8 hown hK hP 0 rfl rfl 4 (by decide) (hts _ mf_X8_strengthNow_16) (fun _ h9 => h9) rfl dX8_strengthNow_55 ?_
        refine lv_iload_n hx hb dX8_strengthNow_58 rfl (lv_at hl 3 rfl) ?_
        obtain ⟨g14, h⟩ := gd_e h
        refine va_iald hx hb hK hP 1 0 rfl rfl (vin_in g14) dX8_strengthNow_59 ?_
        refine lv_i2d hx hb dX8_strengthNow_60 ?_
        refine lv_ldc2d hx hb hown (hts _ mk_X8_strengthNow_39) dX8_strengthNow_61 ?_
        obtain ⟨g15, h⟩ := gd_e h
        refine lv_ddiv hx hb dX8_strengthNow_64 (n64_n g15) ?_
        refine lv_dload hx hb dX8_strengthNow_65 (lv_at hl 0 rfl) ?_
        obtain ⟨g16, h⟩ := gd_e h
        refine lv_dmul hx hb dX8_strengthNow_67 (n64_n g16) ?_
        rw [← some_e h] at hfin
        exact hfin 68 _ _ _ dX8_strengthNow_68 hP hD hS
    · replace h := ifp h q4
      refine lv_dconst0 hx hb dX8_strengthNow_20 ?_
      refine lv_goto (tgt := 43) hx hb dX8_strengthNow_21 (by decide) ?_
      refine lv_dstore_n (lv' := [(3, .double FP.dconst0), (0, .ref a_t), (1, .int p1), (2, .int p2)]) hx hb dX8_strengthNow_43 rfl hl (by decide) rfl (fun ls hl => ?_)
      refine lv_dconst1 hx hb dX8_strengthNow_44 ?_
      refine lv_iload_n hx hb dX8_strengthNow_45 rfl (lv_at hl 3 rfl) ?_
      refine lv_iconst (v := (1 : Int32)) hx hb dX8_strengthNow_46 (by decide) ?_
      refine lv_isub hx hb dX8_strengthNow_47 ?_
      refine lv_i2d hx hb dX8_strengthNow_48 ?_
      refine lv_dload_n hx hb dX8_strengthNow_49 rfl (lv_at hl 0 rfl) ?_
      obtain ⟨g17, h⟩ := gd_e h
      refine lv_dmul hx hb dX8_strengthNow_50 (n64_n g17) ?_
      obtain ⟨g18, h⟩ := gd_e h
      refine lv_dadd hx hb dX8_strengthNow_51 (n64_n g18) ?_
      refine lv_dstore (lv' := [(5, .double (FP.dadd FP.dconst1 (FP.dmul (FP.i2d (p2 - (1 : Int32))) FP.dconst0))), (3, .double FP.dconst0), (0, .ref a_t), (1, .int p1), (2, .int p2)]) hx hb dX8_strengthNow_52 hl (by decide) rfl (fun ls hl => ?_)
      refine lv_aload_n hx hb dX8_strengthNow_54 rfl (lv_at hl 2 rfl) ?_
      refine va_get (D := D) (ci := 10) (v := .ref a_t_power) (C := RX8) (T := TX8) (N := 14) hx hb hts mc_X8_strengthNow_X8 hown hK hP 0 rfl rfl 4 (by decide) (hts _ mf_X8_strengthNow_16) (fun _ h9 => h9) rfl dX8_strengthNow_55 ?_
      refine lv_iload_n hx hb dX8_strengthNow_58 rfl (lv_at hl 3 rfl) ?_
      obtain ⟨g19, h⟩ := gd_e h
      refine va_iald hx hb hK hP 1 0 rfl rfl (vin_in g19) dX8_strengthNow_59 ?_
      refine lv_i2d hx hb dX8_strengthNow_60 ?_
      refine lv_ldc2d hx hb hown (hts _ mk_X8_strengthNow_39) dX8_strengthNow_61 ?_
      obtain ⟨g20, h⟩ := gd_e h
      refine lv_ddiv hx hb dX8_strengthNow_64 (n64_n g20) ?_
      refine lv_dload hx hb dX8_strengthNow_65 (lv_at hl 0 rfl) ?_
      obtain ⟨g21, h⟩ := gd_e h
      refine lv_dmul hx hb dX8_strengthNow_67 (n64_n g21) ?_
      rw [← some_e h] at hfin
      exact hfin 68 _ _ _ dX8_strengthNow_68 hP hD hS
  · replace h := ifp h q2
    refine lv_dconst0 hx hb dX8_strengthNow_9 ?_
    rw [← some_e h] at hfin
    exact hfin 10 _ _ _ dX8_strengthNow_10 hP hD hS
theorem mc_X8_tableNow_X8 : ∀ w ∈ wsX80, w ∈ wsX8_tableNow := by decide +kernel
theorem mf_X8_tableNow_16 : Cond.fieldLink RX8 16 "LensbenchModel" "power" "[I" ∈ wsX8_tableNow := by decide +kernel
theorem mf_X8_tableNow_60 : Cond.fieldLink RX8 60 "LensbenchModel" "thing" "I" ∈ wsX8_tableNow := by decide +kernel
theorem mf_X8_tableNow_9 : Cond.fieldLink RX8 9 "LensbenchModel" "place" "[I" ∈ wsX8_tableNow := by decide +kernel
abbrev rm_X8_tableNow : Room := { frames := 1, cells := 0, slots := 0, locals := 26 }
set_option maxHeartbeats 4000000 in
set_option maxRecDepth 100000 in
theorem m_X8_tableNow (l : Launch) (D : va_G) (cI cD cB : ClassId) (a_t : Nat) (a_t_place : Nat) (a_t_half : Nat) (a_t_power : Nat) (a_t_glass : Nat) (p1 : Int32) (p2 : Int32) (c_t_thrown : Int32) (c_t_pieces : Int32) (c_t_thing : Int32) (c_t_screen : Int32) (c_t_tall : Int32) (c_t_refused : Int32) (c_t_height : UInt64) (c_t_slope : UInt64) (c_t_cut : Int32) (c_t_sum : Int64) (c_t_place : Nat → Int32) (c_t_power : Nat → Int32) (c_t_glass : Nat → Int32) (R : UInt64) (h : f_X8_tableNow p1 p2 c_t_pieces c_t_thing c_t_screen c_t_place c_t_power c_t_glass = some R) : Cd l yX8_tableNow wsX8_tableNow rm_X8_tableNow D (TT cI cD cB) [.ref a_t, .int p1, .int p2] [(a_t, .inr (10, [.int c_t_thrown, .int c_t_pieces, .ref a_t_place, .ref a_t_half, .ref a_t_power, .ref a_t_glass, .int c_t_thing, .int c_t_screen, .int c_t_tall, .int c_t_refused, .double c_t_height, .double c_t_slope, .int c_t_cut, .long c_t_sum])), (a_t_place, .inl (cI, 8, .inl c_t_place)), (a_t_power, .inl (cI, 8, .inl c_t_power)), (a_t_glass, .inl (cI, 8, .inl c_t_glass))] [(a_t, .inr (10, [.int c_t_thrown, .int c_t_pieces, .ref a_t_place, .ref a_t_half, .ref a_t_power, .ref a_t_glass, .int c_t_thing, .int c_t_screen, .int c_t_tall, .int c_t_refused, .double c_t_height, .double c_t_slope, .int c_t_cut, .long c_t_sum])), (a_t_place, .inl (cI, 8, .inl c_t_place)), (a_t_power, .inl (cI, 8, .inl c_t_power)), (a_t_glass, .inl (cI, 8, .inl c_t_glass))] R 0 0 := by
  unfold f_X8_tableNow at h
  refine st_d (cc := cX8_tableNow) (maxL := 16) (by decide) rfl (Nat.le_of_ble_eq_true rfl) (fun p e s m av below meth c A Q ls hx hb hml hts hown hA hK hNM hZ hP hD hS hl hfin => ?_)
  have hown : s.vm.findClass RX8 = some m.cls := hown
  have hl : lv_has ls 16 [(0, .ref a_t), (1, .int p1), (2, .int p2)] := hl
  refine lv_dconst1 hx hb dX8_tableNow_0 ?_
  refine lv_dstore_n (lv' := [(3, .double FP.dconst1), (0, .ref a_t), (1, .int p1), (2, .int p2)]) hx hb dX8_tableNow_1 rfl hl (by decide) rfl (fun ls hl => ?_)
  refine lv_dconst0 hx hb dX8_tableNow_2 ?_
  refine lv_dstore (lv' := [(5, .double FP.dconst0), (3, .double FP.dconst1), (0, .ref a_t), (1, .int p1), (2, .int p2)]) hx hb dX8_tableNow_3 hl (by decide) rfl (fun ls hl => ?_)
  refine lv_dconst0 hx hb dX8_tableNow_5 ?_
  refine lv_dstore (lv' := [(7, .double FP.dconst0), (5, .double FP.dconst0), (3, .double FP.dconst1), (0, .ref a_t), (1, .int p1), (2, .int p2)]) hx hb dX8_tableNow_6 hl (by decide) rfl (fun ls hl => ?_)
  refine lv_dconst1 hx hb dX8_tableNow_8 ?_
  refine lv_dstore (lv' := [(9, .double FP.dconst1), (7, .double FP.dconst0), (5, .double FP.dconst0), (3, .double FP.dconst1), (0, .ref a_t), (1, .int p1), (2, .int p2)]) hx hb dX8_tableNow_9 hl (by decide) rfl (fun ls hl => ?_)
  refine lv_aload_n hx hb dX8_tableNow_11 rfl (lv_at hl 4 rfl) ?_
  refine va_get (D := D) (ci := 10) (v := .int c_t_thing) (C := RX8) (T := TX8) (N := 14) hx hb hts mc_X8_tableNow_X8 hown hK hP 0 rfl rfl 6 (by decide) (hts _ mf_X8_tableNow_60) (fun _ h9 => h9) rfl dX8_tableNow_12 ?_
  refine lv_istore (lv' := [(11, .int c_t_thing), (9, .double FP.dconst1), (7, .double FP.dconst0), (5, .double FP.dconst0), (3, .double FP.dconst1), (0, .ref a_t), (1, .int p1), (2, .int p2)]) hx hb dX8_tableNow_15 hl (by decide) rfl (fun ls hl => ?_)
  refine lv_aload_n hx hb dX8_tableNow_17 rfl (lv_at hl 5 rfl) ?_
  refine lv_iload hx hb dX8_tableNow_18 (lv_at hl 0 rfl) ?_
  obtain ⟨o1, e2, h⟩ := bd_e h
  refine co_i (W0 := [(a_t, .inr (10, [.int c_t_thrown, .int c_t_pieces, .ref a_t_place, .ref a_t_half, .ref a_t_power, .ref a_t_glass, .int c_t_thing, .int c_t_screen, .int c_t_tall, .int c_t_refused, .double c_t_height, .double c_t_slope, .int c_t_cut, .long c_t_sum])), (a_t_place, .inl (cI, 8, .inl c_t_place))]) (wr := [(a_t_power, .inl (cI, 8, .inl c_t_power)), (a_t_glass, .inl (cI, 8, .inl c_t_glass))]) (W1 := [(a_t, .inr (10, [.int c_t_thrown, .int c_t_pieces, .ref a_t_place, .ref a_t_half, .ref a_t_power, .ref a_t_glass, .int c_t_thing, .int c_t_screen, .int c_t_tall, .int c_t_refused, .double c_t_height, .double c_t_slope, .int c_t_cut, .long c_t_sum])), (a_t_place, .inl (cI, 8, .inl c_t_place))]) (ws2 := [(a_t, .inr (10, [.int c_t_thrown, .int c_t_pieces, .ref a_t_place, .ref a_t_half, .ref a_t_power, .ref a_t_glass, .int c_t_thing, .int c_t_screen, .int c_t_tall, .int c_t_refused, .double c_t_height, .double c_t_slope, .int c_t_cut, .long c_t_sum])), (a_t_place, .inl (cI, 8, .inl c_t_place)), (a_t_power, .inl (cI, 8, .inl c_t_power)), (a_t_glass, .inl (cI, 8, .inl c_t_glass))]) (va_runV (C := RX8) (As := [.int c_t_thing]) (rest := []) ⟨hx, hb, hml, hown, hts⟩ (m_X8_next l D cI cD cB a_t a_t_place a_t_half a_t_power a_t_glass c_t_thing c_t_thrown c_t_pieces c_t_thing c_t_screen c_t_tall c_t_refused c_t_height c_t_slope c_t_cut c_t_sum c_t_place o1 e2 _) (cwV 1 hts gX8_tableNow_X8_next rfl rfl rfl (by decide +kernel) ⟨Nat.le_of_ble_eq_true rfl, Nat.le_of_ble_eq_true rfl⟩) (my_preV (q := (RX8, TX8, 14)) (ci := 10) (q0 := 0) [0, 1] hP hK hNM hZ hD hS hA rfl rfl rfl rfl) rfl rfl hl.1 rfl (lv_room (Nat.le_of_ble_eq_true rfl)) dX8_tableNow_20 ⟨Nat.zero_le _, Nat.zero_le _⟩) hP hD hS hA [0, 1] [2, 3] [2, 3, 0, 1] rfl rfl rfl rfl rfl (by decide) (fun H locs hP hD hS => ?_)
  refine lv_istore (lv' := [(12, .int o1), (11, .int c_t_thing), (9, .double FP.dconst1), (7, .double FP.dconst0), (5, .double FP.dconst0), (3, .double FP.dconst1), (0, .ref a_t), (1, .int p1), (2, .int p2)]) hx hb dX8_tableNow_23 hl (by decide) rfl (fun ls hl => ?_)
  have LOOP1 : ∀ (n1 : Nat) (s1 : Int32 × Int32 × UInt64 × UInt64 × UInt64 × UInt64) (H : Heap) (locs : List Loc) (ls : Array Slot), va_P D vwCl [(a_t, .inr (10, [.int c_t_thrown, .int c_t_pieces, .ref a_t_place, .ref a_t_half, .ref a_t_power, .ref a_t_glass, .int c_t_thing, .int c_t_screen, .int c_t_tall, .int c_t_refused, .double c_t_height, .double c_t_slope, .int c_t_cut, .long c_t_sum])), (a_t_place, .inl (cI, 8, .inl c_t_place)), (a_t_power, .inl (cI, 8, .inl c_t_power)), (a_t_glass, .inl (cI, 8, .inl c_t_glass))] H → va_D A [(a_t, .inr (10, [.int c_t_thrown, .int c_t_pieces, .ref a_t_place, .ref a_t_half, .ref a_t_power, .ref a_t_glass, .int c_t_thing, .int c_t_screen, .int c_t_tall, .int c_t_refused, .double c_t_height, .double c_t_slope, .int c_t_cut, .long c_t_sum])), (a_t_place, .inl (cI, 8, .inl c_t_place)), (a_t_power, .inl (cI, 8, .inl c_t_power)), (a_t_glass, .inl (cI, 8, .inl c_t_glass))] → va_S A s.heap H locs → lv_has ls 16 [(12, .int s1.1), (11, .int s1.2.1), (9, .double s1.2.2.1), (7, .double s1.2.2.2.1), (5, .double s1.2.2.2.2.1), (3, .double s1.2.2.2.2.2), (0, .ref a_t), (1, .int p1), (2, .int p2)] → lp (f_X8_tableNow_b1 p1 p2 c_t_pieces c_t_screen c_t_place c_t_power c_t_glass) n1 s1 = some R → W p l e rm_X8_tableNow s m av below meth c H locs 0 0 Q (F0 m 25 ls []) := by
    intro n1
    induction n1 with
    | zero => intro s1 H locs ls hP hD hS hl h; exact lp_0 h
    | succ n1 ih1 =>
      intro s1 H locs ls hP hD hS hl h
      replace h := lp_s h
      unfold f_X8_tableNow_b1 at h
      refine lv_iload hx hb dX8_tableNow_25 (lv_at hl 0 rfl) ?_
      refine lv_iconst (v := (-1 : Int32)) hx hb dX8_tableNow_27 (by decide) ?_
      refine lv_icmp_eq (tgt := 124) hx hb dX8_tableNow_28 (by decide) (fun q3 => ?_) (fun q3 => ?_)
      · replace h := ifp h q3
        refine lv_iload_n hx hb dX8_tableNow_124 rfl (lv_at hl 8 rfl) ?_
        refine lv_if_ne (tgt := 132) hx hb dX8_tableNow_125 (by decide) (fun q4 => ?_) (fun q4 => ?_)
        · replace h := ifn h q4
          refine lv_iload_n hx hb dX8_tableNow_132 rfl (lv_at hl 8 rfl) ?_
          refine lv_iconst (v := (1 : Int32)) hx hb dX8_tableNow_133 (by decide) ?_
          refine lv_icmp_ne (tgt := 142) hx hb dX8_tableNow_134 (by decide) (fun q5 => ?_) (fun q5 => ?_)
          · replace h := ifn h q5
            refine lv_iload_n hx hb dX8_tableNow_142 rfl (lv_at hl 8 rfl) ?_
            refine lv_iconst (v := (2 : Int32)) hx hb dX8_tableNow_143 (by decide) ?_
            refine lv_icmp_ne (tgt := 152) hx hb dX8_tableNow_144 (by decide) (fun q6 => ?_) (fun q6 => ?_)
            · replace h := ifn h q6
              refine lv_dload hx hb dX8_tableNow_152 (lv_at hl 2 rfl) ?_
              obtain ⟨o7, e8, h⟩ := bd_e h
              refine co_d (W0 := []) (wr := [(a_t, .inr (10, [.int c_t_thrown, .int c_t_pieces, .ref a_t_place, .ref a_t_half, .ref a_t_power, .ref a_t_glass, .int c_t_thing, .int c_t_screen, .int c_t_tall, .int c_t_refused, .double c_t_height, .double c_t_slope, .int c_t_cut, .long c_t_sum])), (a_t_place, .inl (cI, 8, .inl c_t_place)), (a_t_power, .inl (cI, 8, .inl c_t_power)), (a_t_glass, .inl (cI, 8, .inl c_t_glass))]) (W1 := []) (ws2 := [(a_t, .inr (10, [.int c_t_thrown, .int c_t_pieces, .ref a_t_place, .ref a_t_half, .ref a_t_power, .ref a_t_glass, .int c_t_thing, .int c_t_screen, .int c_t_tall, .int c_t_refused, .double c_t_height, .double c_t_slope, .int c_t_cut, .long c_t_sum])), (a_t_place, .inl (cI, 8, .inl c_t_place)), (a_t_power, .inl (cI, 8, .inl c_t_power)), (a_t_glass, .inl (cI, 8, .inl c_t_glass))]) (va_runS (As := [.double s1.2.2.1]) (rest := []) ⟨hx, hb, hml, hown, hts⟩ (m_X8_plain l D cI cD cB s1.2.2.1 o7 e8 _) (va_cwS 1 hts gX8_tableNow_X8_plain rfl rfl rfl (by decide +kernel) ⟨Nat.le_of_ble_eq_true rfl, Nat.le_of_ble_eq_true rfl⟩) (my_preS [] hP hK hNM hZ hD hS hA rfl rfl) rfl rfl hl.1 rfl (lv_room (Nat.le_of_ble_eq_true rfl)) dX8_tableNow_154 ⟨Nat.zero_le _, Nat.zero_le _⟩) hP hD hS hA [] [0, 1, 2, 3] [0, 1, 2, 3] rfl rfl rfl rfl rfl (by decide) (fun H locs hP hD hS => ?_)
              rw [← some_e h] at hfin
              exact hfin 157 _ _ _ dX8_tableNow_157 hP hD hS
            · replace h := ifp h q6
              refine lv_dload hx hb dX8_tableNow_147 (lv_at hl 3 rfl) ?_
              refine lv_goto (tgt := 154) hx hb dX8_tableNow_149 (by decide) ?_
              obtain ⟨o9, e10, h⟩ := bd_e h
              refine co_d (W0 := []) (wr := [(a_t, .inr (10, [.int c_t_thrown, .int c_t_pieces, .ref a_t_place, .ref a_t_half, .ref a_t_power, .ref a_t_glass, .int c_t_thing, .int c_t_screen, .int c_t_tall, .int c_t_refused, .double c_t_height, .double c_t_slope, .int c_t_cut, .long c_t_sum])), (a_t_place, .inl (cI, 8, .inl c_t_place)), (a_t_power, .inl (cI, 8, .inl c_t_power)), (a_t_glass, .inl (cI, 8, .inl c_t_glass))]) (W1 := []) (ws2 := [(a_t, .inr (10, [.int c_t_thrown, .int c_t_pieces, .ref a_t_place, .ref a_t_half, .ref a_t_power, .ref a_t_glass, .int c_t_thing, .int c_t_screen, .int c_t_tall, .int c_t_refused, .double c_t_height, .double c_t_slope, .int c_t_cut, .long c_t_sum])), (a_t_place, .inl (cI, 8, .inl c_t_place)), (a_t_power, .inl (cI, 8, .inl c_t_power)), (a_t_glass, .inl (cI, 8, .inl c_t_glass))]) (va_runS (As := [.double s1.2.2.2.1]) (rest := []) ⟨hx, hb, hml, hown, hts⟩ (m_X8_plain l D cI cD cB s1.2.2.2.1 o9 e10 _) (va_cwS 1 hts gX8_tableNow_X8_plain rfl rfl rfl (by decide +kernel) ⟨Nat.le_of_ble_eq_true rfl, Nat.le_of_ble_eq_true rfl⟩) (my_preS [] hP hK hNM hZ hD hS hA rfl rfl) rfl rfl hl.1 rfl (lv_room (Nat.le_of_ble_eq_true rfl)) dX8_tableNow_154 ⟨Nat.zero_le _, Nat.zero_le _⟩) hP hD hS hA [] [0, 1, 2, 3] [0, 1, 2, 3] rfl rfl rfl rfl rfl (by decide) (fun H locs hP hD hS => ?_)
              rw [← some_e h] at hfin
              exact hfin 157 _ _ _ dX8_tableNow_157 hP hD hS
          · replace h := ifp h q5
            refine lv_dload hx hb dX8_tableNow_137 (lv_at hl 4 rfl) ?_
            refine lv_goto (tgt := 154) hx hb dX8_tableNow_139 (by decide) ?_
            obtain ⟨o11, e12, h⟩ := bd_e h
            refine co_d (W0 := []) (wr := [(a_t, .inr (10, [.int c_t_thrown, .int c_t_pieces, .ref a_t_place, .ref a_t_half, .ref a_t_power, .ref a_t_glass, .int c_t_thing, .int c_t_screen, .int c_t_tall, .int c_t_refused, .double c_t_height, .double c_t_slope, .int c_t_cut, .long c_t_sum])), (a_t_place, .inl (cI, 8, .inl c_t_place)), (a_t_power, .inl (cI, 8, .inl c_t_power)), (a_t_glass, .inl (cI, 8, .inl c_t_glass))]) (W1 := []) (ws2 := [(a_t, .inr (10, [.int c_t_thrown, .int c_t_pieces, .ref a_t_place, .ref a_t_half, .ref a_t_power, .ref a_t_glass, .int c_t_thing, .int c_t_screen, .int c_t_tall, .int c_t_refused, .double c_t_height, .double c_t_slope, .int c_t_cut, .long c_t_sum])), (a_t_place, .inl (cI, 8, .inl c_t_place)), (a_t_power, .inl (cI, 8, .inl c_t_power)), (a_t_glass, .inl (cI, 8, .inl c_t_glass))]) (va_runS (As := [.double s1.2.2.2.2.1]) (rest := []) ⟨hx, hb, hml, hown, hts⟩ (m_X8_plain l D cI cD cB s1.2.2.2.2.1 o11 e12 _) (va_cwS 1 hts gX8_tableNow_X8_plain rfl rfl rfl (by decide +kernel) ⟨Nat.le_of_ble_eq_true rfl, Nat.le_of_ble_eq_true rfl⟩) (my_preS [] hP hK hNM hZ hD hS hA rfl rfl) rfl rfl hl.1 rfl (lv_room (Nat.le_of_ble_eq_true rfl)) dX8_tableNow_154 ⟨Nat.zero_le _, Nat.zero_le _⟩) hP hD hS hA [] [0, 1, 2, 3] [0, 1, 2, 3] rfl rfl rfl rfl rfl (by decide) (fun H locs hP hD hS => ?_)
            rw [← some_e h] at hfin
            exact hfin 157 _ _ _ dX8_tableNow_157 hP hD hS
        · replace h := ifp h q4
          refine lv_dload_n hx hb dX8_tableNow_128 rfl (lv_at hl 5 rfl) ?_
          refine lv_goto (tgt := 154) hx hb dX8_tableNow_129 (by decide) ?_
          obtain ⟨o13, e14, h⟩ := bd_e h
          refine co_d (W0 := []) (wr := [(a_t, .inr (10, [.int c_t_thrown, .int c_t_pieces, .ref a_t_place, .ref a_t_half, .ref a_t_power, .ref a_t_glass, .int c_t_thing, .int c_t_screen, .int c_t_tall, .int c_t_refused, .double c_t_height, .double c_t_slope, .int c_t_cut, .long c_t_sum])), (a_t_place, .inl (cI, 8, .inl c_t_place)), (a_t_power, .inl (cI, 8, .inl c_t_power)), (a_t_glass, .inl (cI, 8, .inl c_t_glass))]) (W1 := []) (ws2 := [(a_t, .inr (10, [.int c_t_thrown, .int c_t_pieces, .ref a_t_place, .ref a_t_half, .ref a_t_power, .ref a_t_glass, .int c_t_thing, .int c_t_screen, .int c_t_tall, .int c_t_refused, .double c_t_height, .double c_t_slope, .int c_t_cut, .long c_t_sum])), (a_t_place, .inl (cI, 8, .inl c_t_place)), (a_t_power, .inl (cI, 8, .inl c_t_power)), (a_t_glass, .inl (cI, 8, .inl c_t_glass))]) (va_runS (As := [.double s1.2.2.2.2.2]) (rest := []) ⟨hx, hb, hml, hown, hts⟩ (m_X8_plain l D cI cD cB s1.2.2.2.2.2 o13 e14 _) (va_cwS 1 hts gX8_tableNow_X8_plain rfl rfl rfl (by decide +kernel) ⟨Nat.le_of_ble_eq_true rfl, Nat.le_of_ble_eq_true rfl⟩) (my_preS [] hP hK hNM hZ hD hS hA rfl rfl) rfl rfl hl.1 rfl (lv_room (Nat.le_of_ble_eq_true rfl)) dX8_tableNow_154 ⟨Nat.zero_le _, Nat.zero_le _⟩) hP hD hS hA [] [0, 1, 2, 3] [0, 1, 2, 3] rfl rfl rfl rfl rfl (by decide) (fun H locs hP hD hS => ?_)
          rw [← some_e h] at hfin
          exact hfin 157 _ _ _ dX8_tableNow_157 hP hD hS
      · replace h := ifn h q3
        refine lv_aload_n hx hb dX8_tableNow_31 rfl (lv_at hl 6 rfl) ?_
        refine va_get (D := D) (ci := 10) (v := .ref a_t_place) (C := RX8) (T := TX8) (N := 14) hx hb hts mc_X8_tableNow_X8 hown hK hP 0 rfl rfl 2 (by decide) (hts _ mf_X8_tableNow_9) (fun _ h9 => h9) rfl dX8_tableNow_32 ?_
        refine lv_iload hx hb dX8_tableNow_35 (lv_at hl 0 rfl) ?_
        obtain ⟨g15, h⟩ := gd_e h
        refine va_iald hx hb hK hP 1 0 rfl rfl (vin_in g15) dX8_tableNow_37 ?_
        refine lv_iload hx hb dX8_tableNow_38 (lv_at hl 1 rfl) ?_
        refine lv_isub hx hb dX8_tableNow_40 ?_
        refine lv_istore (lv' := [(13, .int ((c_t_place (s1.1).toNatClampNeg) - s1.2.1)), (12, .int s1.1), (11, .int s1.2.1), (9, .double s1.2.2.1), (7, .double s1.2.2.2.1), (5, .double s1.2.2.2.2.1), (3, .double s1.2.2.2.2.2), (0, .ref a_t), (1, .int p1), (2, .int p2)]) hx hb dX8_tableNow_41 hl (by decide) rfl (fun ls hl => ?_)
        refine lv_aload_n hx hb dX8_tableNow_43 rfl (lv_at hl 7 rfl) ?_
        refine va_get (D := D) (ci := 10) (v := .ref a_t_place) (C := RX8) (T := TX8) (N := 14) hx hb hts mc_X8_tableNow_X8 hown hK hP 0 rfl rfl 2 (by decide) (hts _ mf_X8_tableNow_9) (fun _ h9 => h9) rfl dX8_tableNow_44 ?_
        refine lv_iload hx hb dX8_tableNow_47 (lv_at hl 1 rfl) ?_
        obtain ⟨g16, h⟩ := gd_e h
        refine va_iald hx hb hK hP 1 0 rfl rfl (vin_in g16) dX8_tableNow_49 ?_
        refine lv_istore (lv' := [(11, .int (c_t_place (s1.1).toNatClampNeg)), (13, .int ((c_t_place (s1.1).toNatClampNeg) - s1.2.1)), (12, .int s1.1), (9, .double s1.2.2.1), (7, .double s1.2.2.2.1), (5, .double s1.2.2.2.2.1), (3, .double s1.2.2.2.2.2), (0, .ref a_t), (1, .int p1), (2, .int p2)]) hx hb dX8_tableNow_50 hl (by decide) rfl (fun ls hl => ?_)
        refine lv_dload_n hx hb dX8_tableNow_52 rfl (lv_at hl 6 rfl) ?_
        refine lv_dload hx hb dX8_tableNow_53 (lv_at hl 4 rfl) ?_
        refine lv_iload hx hb dX8_tableNow_55 (lv_at hl 1 rfl) ?_
        refine lv_i2d hx hb dX8_tableNow_57 ?_
        obtain ⟨g17, h⟩ := gd_e h
        refine lv_dmul hx hb dX8_tableNow_58 (n64_n g17) ?_
        obtain ⟨g18, h⟩ := gd_e h
        refine lv_dadd hx hb dX8_tableNow_59 (n64_n g18) ?_
        refine lv_dstore_n (lv' := [(3, .double (FP.dadd s1.2.2.2.2.2 (FP.dmul s1.2.2.2.1 (FP.i2d ((c_t_place (s1.1).toNatClampNeg) - s1.2.1))))), (11, .int (c_t_place (s1.1).toNatClampNeg)), (13, .int ((c_t_place (s1.1).toNatClampNeg) - s1.2.1)), (12, .int s1.1), (9, .double s1.2.2.1), (7, .double s1.2.2.2.1), (5, .double s1.2.2.2.2.1), (0, .ref a_t), (1, .int p1), (2, .int p2)]) hx hb dX8_tableNow_60 rfl hl (by decide) rfl (fun ls hl => ?_)
        refine lv_dload hx hb dX8_tableNow_61 (lv_at hl 6 rfl) ?_
        refine lv_dload hx hb dX8_tableNow_63 (lv_at hl 4 rfl) ?_
        refine lv_iload hx hb dX8_tableNow_65 (lv_at hl 2 rfl) ?_
        refine lv_i2d hx hb dX8_tableNow_67 ?_
        obtain ⟨g19, h⟩ := gd_e h
        refine lv_dmul hx hb dX8_tableNow_68 (n64_n g19) ?_
        obtain ⟨g20, h⟩ := gd_e h
        refine lv_dadd hx hb dX8_tableNow_69 (n64_n g20) ?_
        refine lv_dstore (lv' := [(5, .double (FP.dadd s1.2.2.2.2.1 (FP.dmul s1.2.2.1 (FP.i2d ((c_t_place (s1.1).toNatClampNeg) - s1.2.1))))), (3, .double (FP.dadd s1.2.2.2.2.2 (FP.dmul s1.2.2.2.1 (FP.i2d ((c_t_place (s1.1).toNatClampNeg) - s1.2.1))))), (11, .int (c_t_place (s1.1).toNatClampNeg)), (13, .int ((c_t_place (s1.1).toNatClampNeg) - s1.2.1)), (12, .int s1.1), (9, .double s1.2.2.1), (7, .double s1.2.2.2.1), (0, .ref a_t), (1, .int p1), (2, .int p2)]) hx hb dX8_tableNow_70 hl (by decide) rfl (fun ls hl => ?_)
        refine lv_aload_n hx hb dX8_tableNow_72 rfl (lv_at hl 7 rfl) ?_
        refine va_get (D := D) (ci := 10) (v := .ref a_t_power) (C := RX8) (T := TX8) (N := 14) hx hb hts mc_X8_tableNow_X8 hown hK hP 0 rfl rfl 4 (by decide) (hts _ mf_X8_tableNow_16) (fun _ h9 => h9) rfl dX8_tableNow_73 ?_
        refine lv_iload hx hb dX8_tableNow_76 (lv_at hl 4 rfl) ?_
        obtain ⟨g21, h⟩ := gd_e h
        refine va_iald hx hb hK hP 2 0 rfl rfl (vin_in g21) dX8_tableNow_78 ?_
        refine lv_if_ne (tgt := 85) hx hb dX8_tableNow_79 (by decide) (fun q22 => ?_) (fun q22 => ?_)
        · replace h := ifn h q22
          refine lv_aload_n hx hb dX8_tableNow_85 rfl (lv_at hl 7 rfl) ?_
          refine lv_iload hx hb dX8_tableNow_86 (lv_at hl 4 rfl) ?_
          refine lv_iload_n hx hb dX8_tableNow_88 rfl (lv_at hl 8 rfl) ?_
          obtain ⟨o23, e24, h⟩ := bd_e h
          refine co_d (W0 := [(a_t, .inr (10, [.int c_t_thrown, .int c_t_pieces, .ref a_t_place, .ref a_t_half, .ref a_t_power, .ref a_t_glass, .int c_t_thing, .int c_t_screen, .int c_t_tall, .int c_t_refused, .double c_t_height, .double c_t_slope, .int c_t_cut, .long c_t_sum])), (a_t_power, .inl (cI, 8, .inl c_t_power)), (a_t_glass, .inl (cI, 8, .inl c_t_glass))]) (wr := [(a_t_place, .inl (cI, 8, .inl c_t_place))]) (W1 := [(a_t, .inr (10, [.int c_t_thrown, .int c_t_pieces, .ref a_t_place, .ref a_t_half, .ref a_t_power, .ref a_t_glass, .int c_t_thing, .int c_t_screen, .int c_t_tall, .int c_t_refused, .double c_t_height, .double c_t_slope, .int c_t_cut, .long c_t_sum])), (a_t_power, .inl (cI, 8, .inl c_t_power)), (a_t_glass, .inl (cI, 8, .inl c_t_glass))]) (ws2 := [(a_t, .inr (10, [.int c_t_thrown, .int c_t_pieces, .ref a_t_place, .ref a_t_half, .ref a_t_power, .ref a_t_glass, .int c_t_thing, .int c_t_screen, .int c_t_tall, .int c_t_refused, .double c_t_height, .double c_t_slope, .int c_t_cut, .long c_t_sum])), (a_t_place, .inl (cI, 8, .inl c_t_place)), (a_t_power, .inl (cI, 8, .inl c_t_power)), (a_t_glass, .inl (cI, 8, .inl c_t_glass))]) (va_runV (C := RX8) (As := [.int s1.1, .int p1]) (rest := []) ⟨hx, hb, hml, hown, hts⟩ (m_X8_strengthNow l D cI cD cB a_t a_t_place a_t_half a_t_power a_t_glass s1.1 p1 c_t_thrown c_t_pieces c_t_thing c_t_screen c_t_tall c_t_refused c_t_height c_t_slope c_t_cut c_t_sum c_t_power c_t_glass o23 e24 _) (cwV 2 hts gX8_tableNow_X8_strengthNow rfl rfl rfl (by decide +kernel) ⟨Nat.le_of_ble_eq_true rfl, Nat.le_of_ble_eq_true rfl⟩) (my_preV (q := (RX8, TX8, 14)) (ci := 10) (q0 := 0) [0, 2, 3] hP hK hNM hZ hD hS hA rfl rfl rfl rfl) rfl rfl hl.1 rfl (lv_room (Nat.le_of_ble_eq_true rfl)) dX8_tableNow_89 ⟨Nat.zero_le _, Nat.zero_le _⟩) hP hD hS hA [0, 2, 3] [1] [1, 0, 2, 3] rfl rfl rfl rfl rfl (by decide) (fun H locs hP hD hS => ?_)
          refine lv_dstore (lv' := [(14, .double o23), (5, .double (FP.dadd s1.2.2.2.2.1 (FP.dmul s1.2.2.1 (FP.i2d ((c_t_place (s1.1).toNatClampNeg) - s1.2.1))))), (3, .double (FP.dadd s1.2.2.2.2.2 (FP.dmul s1.2.2.2.1 (FP.i2d ((c_t_place (s1.1).toNatClampNeg) - s1.2.1))))), (11, .int (c_t_place (s1.1).toNatClampNeg)), (13, .int ((c_t_place (s1.1).toNatClampNeg) - s1.2.1)), (12, .int s1.1), (9, .double s1.2.2.1), (7, .double s1.2.2.2.1), (0, .ref a_t), (1, .int p1), (2, .int p2)]) hx hb dX8_tableNow_92 hl (by decide) rfl (fun ls hl => ?_)
          refine lv_dload hx hb dX8_tableNow_94 (lv_at hl 7 rfl) ?_
          refine lv_dload_n hx hb dX8_tableNow_96 rfl (lv_at hl 2 rfl) ?_
          refine lv_dload hx hb dX8_tableNow_97 (lv_at hl 0 rfl) ?_
          obtain ⟨g25, h⟩ := gd_e h
          refine lv_dmul hx hb dX8_tableNow_99 (n64_n g25) ?_
          obtain ⟨g26, h⟩ := gd_e h
          refine lv_dsub hx hb dX8_tableNow_100 (n64_n g26) ?_
          refine lv_dstore (lv' := [(7, .double (FP.dsub s1.2.2.2.1 (FP.dmul (FP.dadd s1.2.2.2.2.2 (FP.dmul s1.2.2.2.1 (FP.i2d ((c_t_place (s1.1).toNatClampNeg) - s1.2.1)))) o23))), (14, .double o23), (5, .double (FP.dadd s1.2.2.2.2.1 (FP.dmul s1.2.2.1 (FP.i2d ((c_t_place (s1.1).toNatClampNeg) - s1.2.1))))), (3, .double (FP.dadd s1.2.2.2.2.2 (FP.dmul s1.2.2.2.1 (FP.i2d ((c_t_place (s1.1).toNatClampNeg) - s1.2.1))))), (11, .int (c_t_place (s1.1).toNatClampNeg)), (13, .int ((c_t_place (s1.1).toNatClampNeg) - s1.2.1)), (12, .int s1.1), (9, .double s1.2.2.1), (0, .ref a_t), (1, .int p1), (2, .int p2)]) hx hb dX8_tableNow_101 hl (by decide) rfl (fun ls hl => ?_)
          refine lv_dload hx hb dX8_tableNow_103 (lv_at hl 7 rfl) ?_
          refine lv_dload hx hb dX8_tableNow_105 (lv_at hl 2 rfl) ?_
          refine lv_dload hx hb dX8_tableNow_107 (lv_at hl 1 rfl) ?_
          obtain ⟨g27, h⟩ := gd_e h
          refine lv_dmul hx hb dX8_tableNow_109 (n64_n g27) ?_
          obtain ⟨g28, h⟩ := gd_e h
          refine lv_dsub hx hb dX8_tableNow_110 (n64_n g28) ?_
          refine lv_dstore (lv' := [(9, .double (FP.dsub s1.2.2.1 (FP.dmul (FP.dadd s1.2.2.2.2.1 (FP.dmul s1.2.2.1 (FP.i2d ((c_t_place (s1.1).toNatClampNeg) - s1.2.1)))) o23))), (7, .double (FP.dsub s1.2.2.2.1 (FP.dmul (FP.dadd s1.2.2.2.2.2 (FP.dmul s1.2.2.2.1 (FP.i2d ((c_t_place (s1.1).toNatClampNeg) - s1.2.1)))) o23))), (14, .double o23), (5, .double (FP.dadd s1.2.2.2.2.1 (FP.dmul s1.2.2.1 (FP.i2d ((c_t_place (s1.1).toNatClampNeg) - s1.2.1))))), (3, .double (FP.dadd s1.2.2.2.2.2 (FP.dmul s1.2.2.2.1 (FP.i2d ((c_t_place (s1.1).toNatClampNeg) - s1.2.1))))), (11, .int (c_t_place (s1.1).toNatClampNeg)), (13, .int ((c_t_place (s1.1).toNatClampNeg) - s1.2.1)), (12, .int s1.1), (0, .ref a_t), (1, .int p1), (2, .int p2)]) hx hb dX8_tableNow_111 hl (by decide) rfl (fun ls hl => ?_)
          refine lv_aload_n hx hb dX8_tableNow_113 rfl (lv_at hl 8 rfl) ?_
          refine lv_iload hx hb dX8_tableNow_114 (lv_at hl 5 rfl) ?_
          obtain ⟨o29, e30, h⟩ := bd_e h
          refine co_i (W0 := [(a_t, .inr (10, [.int c_t_thrown, .int c_t_pieces, .ref a_t_place, .ref a_t_half, .ref a_t_power, .ref a_t_glass, .int c_t_thing, .int c_t_screen, .int c_t_tall, .int c_t_refused, .double c_t_height, .double c_t_slope, .int c_t_cut, .long c_t_sum])), (a_t_place, .inl (cI, 8, .inl c_t_place))]) (wr := [(a_t_power, .inl (cI, 8, .inl c_t_power)), (a_t_glass, .inl (cI, 8, .inl c_t_glass))]) (W1 := [(a_t, .inr (10, [.int c_t_thrown, .int c_t_pieces, .ref a_t_place, .ref a_t_half, .ref a_t_power, .ref a_t_glass, .int c_t_thing, .int c_t_screen, .int c_t_tall, .int c_t_refused, .double c_t_height, .double c_t_slope, .int c_t_cut, .long c_t_sum])), (a_t_place, .inl (cI, 8, .inl c_t_place))]) (ws2 := [(a_t, .inr (10, [.int c_t_thrown, .int c_t_pieces, .ref a_t_place, .ref a_t_half, .ref a_t_power, .ref a_t_glass, .int c_t_thing, .int c_t_screen, .int c_t_tall, .int c_t_refused, .double c_t_height, .double c_t_slope, .int c_t_cut, .long c_t_sum])), (a_t_place, .inl (cI, 8, .inl c_t_place)), (a_t_power, .inl (cI, 8, .inl c_t_power)), (a_t_glass, .inl (cI, 8, .inl c_t_glass))]) (va_runV (C := RX8) (As := [.int (c_t_place (s1.1).toNatClampNeg)]) (rest := []) ⟨hx, hb, hml, hown, hts⟩ (m_X8_next l D cI cD cB a_t a_t_place a_t_half a_t_power a_t_glass (c_t_place (s1.1).toNatClampNeg) c_t_thrown c_t_pieces c_t_thing c_t_screen c_t_tall c_t_refused c_t_height c_t_slope c_t_cut c_t_sum c_t_place o29 e30 _) (cwV 1 hts gX8_tableNow_X8_next rfl rfl rfl (by decide +kernel) ⟨Nat.le_of_ble_eq_true rfl, Nat.le_of_ble_eq_true rfl⟩) (my_preV (q := (RX8, TX8, 14)) (ci := 10) (q0 := 0) [0, 1] hP hK hNM hZ hD hS hA rfl rfl rfl rfl) rfl rfl hl.1 rfl (lv_room (Nat.le_of_ble_eq_true rfl)) dX8_tableNow_116 ⟨Nat.zero_le _, Nat.zero_le _⟩) hP hD hS hA [0, 1] [2, 3] [2, 3, 0, 1] rfl rfl rfl rfl rfl (by decide) (fun H locs hP hD hS => ?_)
          refine lv_istore (lv' := [(12, .int o29), (9, .double (FP.dsub s1.2.2.1 (FP.dmul (FP.dadd s1.2.2.2.2.1 (FP.dmul s1.2.2.1 (FP.i2d ((c_t_place (s1.1).toNatClampNeg) - s1.2.1)))) o23))), (7, .double (FP.dsub s1.2.2.2.1 (FP.dmul (FP.dadd s1.2.2.2.2.2 (FP.dmul s1.2.2.2.1 (FP.i2d ((c_t_place (s1.1).toNatClampNeg) - s1.2.1)))) o23))), (14, .double o23), (5, .double (FP.dadd s1.2.2.2.2.1 (FP.dmul s1.2.2.1 (FP.i2d ((c_t_place (s1.1).toNatClampNeg) - s1.2.1))))), (3, .double (FP.dadd s1.2.2.2.2.2 (FP.dmul s1.2.2.2.1 (FP.i2d ((c_t_place (s1.1).toNatClampNeg) - s1.2.1))))), (11, .int (c_t_place (s1.1).toNatClampNeg)), (13, .int ((c_t_place (s1.1).toNatClampNeg) - s1.2.1)), (0, .ref a_t), (1, .int p1), (2, .int p2)]) hx hb dX8_tableNow_119 hl (by decide) rfl (fun ls hl => ?_)
          refine lv_goto (tgt := 25) hx hb dX8_tableNow_121 (by decide) ?_
          exact ih1 (o29, (c_t_place (s1.1).toNatClampNeg), (FP.dsub s1.2.2.1 (FP.dmul (FP.dadd s1.2.2.2.2.1 (FP.dmul s1.2.2.1 (FP.i2d ((c_t_place (s1.1).toNatClampNeg) - s1.2.1)))) o23)), (FP.dsub s1.2.2.2.1 (FP.dmul (FP.dadd s1.2.2.2.2.2 (FP.dmul s1.2.2.2.1 (FP.i2d ((c_t_place (s1.1).toNatClampNeg) - s1.2.1)))) o23)), (FP.dadd s1.2.2.2.2.1 (FP.dmul s1.2.2.1 (FP.i2d ((c_t_place (s1.1).toNatClampNeg) - s1.2.1)))), (FP.dadd s1.2.2.2.2.2 (FP.dmul s1.2.2.2.1 (FP.i2d ((c_t_place (s1.1).toNatClampNeg) - s1.2.1))))) _ _ _ hP hD hS (lv_sub hl [0, 6, 1, 2, 4, 5, 8, 9, 10] rfl) h
        · replace h := ifp h q22
          refine lv_goto (tgt := 113) hx hb dX8_tableNow_82 (by decide) ?_
          refine lv_aload_n hx hb dX8_tableNow_113 rfl (lv_at hl 7 rfl) ?_
          refine lv_iload hx hb dX8_tableNow_114 (lv_at hl 2 rfl) ?_
          obtain ⟨o31, e32, h⟩ := bd_e h
          refine co_i (W0 := [(a_t, .inr (10, [.int c_t_thrown, .int c_t_pieces, .ref a_t_place, .ref a_t_half, .ref a_t_power, .ref a_t_glass, .int c_t_thing, .int c_t_screen, .int c_t_tall, .int c_t_refused, .double c_t_height, .double c_t_slope, .int c_t_cut, .long c_t_sum])), (a_t_place, .inl (cI, 8, .inl c_t_place))]) (wr := [(a_t_power, .inl (cI, 8, .inl c_t_power)), (a_t_glass, .inl (cI, 8, .inl c_t_glass))]) (W1 := [(a_t, .inr (10, [.int c_t_thrown, .int c_t_pieces, .ref a_t_place, .ref a_t_half, .ref a_t_power, .ref a_t_glass, .int c_t_thing, .int c_t_screen, .int c_t_tall, .int c_t_refused, .double c_t_height, .double c_t_slope, .int c_t_cut, .long c_t_sum])), (a_t_place, .inl (cI, 8, .inl c_t_place))]) (ws2 := [(a_t, .inr (10, [.int c_t_thrown, .int c_t_pieces, .ref a_t_place, .ref a_t_half, .ref a_t_power, .ref a_t_glass, .int c_t_thing, .int c_t_screen, .int c_t_tall, .int c_t_refused, .double c_t_height, .double c_t_slope, .int c_t_cut, .long c_t_sum])), (a_t_place, .inl (cI, 8, .inl c_t_place)), (a_t_power, .inl (cI, 8, .inl c_t_power)), (a_t_glass, .inl (cI, 8, .inl c_t_glass))]) (va_runV (C := RX8) (As := [.int (c_t_place (s1.1).toNatClampNeg)]) (rest := []) ⟨hx, hb, hml, hown, hts⟩ (m_X8_next l D cI cD cB a_t a_t_place a_t_half a_t_power a_t_glass (c_t_place (s1.1).toNatClampNeg) c_t_thrown c_t_pieces c_t_thing c_t_screen c_t_tall c_t_refused c_t_height c_t_slope c_t_cut c_t_sum c_t_place o31 e32 _) (cwV 1 hts gX8_tableNow_X8_next rfl rfl rfl (by decide +kernel) ⟨Nat.le_of_ble_eq_true rfl, Nat.le_of_ble_eq_true rfl⟩) (my_preV (q := (RX8, TX8, 14)) (ci := 10) (q0 := 0) [0, 1] hP hK hNM hZ hD hS hA rfl rfl rfl rfl) rfl rfl hl.1 rfl (lv_room (Nat.le_of_ble_eq_true rfl)) dX8_tableNow_116 ⟨Nat.zero_le _, Nat.zero_le _⟩) hP hD hS hA [0, 1] [2, 3] [2, 3, 0, 1] rfl rfl rfl rfl rfl (by decide) (fun H locs hP hD hS => ?_)
          refine lv_istore (lv' := [(12, .int o31), (5, .double (FP.dadd s1.2.2.2.2.1 (FP.dmul s1.2.2.1 (FP.i2d ((c_t_place (s1.1).toNatClampNeg) - s1.2.1))))), (3, .double (FP.dadd s1.2.2.2.2.2 (FP.dmul s1.2.2.2.1 (FP.i2d ((c_t_place (s1.1).toNatClampNeg) - s1.2.1))))), (11, .int (c_t_place (s1.1).toNatClampNeg)), (13, .int ((c_t_place (s1.1).toNatClampNeg) - s1.2.1)), (9, .double s1.2.2.1), (7, .double s1.2.2.2.1), (0, .ref a_t), (1, .int p1), (2, .int p2)]) hx hb dX8_tableNow_119 hl (by decide) rfl (fun ls hl => ?_)
          refine lv_goto (tgt := 25) hx hb dX8_tableNow_121 (by decide) ?_
          exact ih1 (o31, (c_t_place (s1.1).toNatClampNeg), s1.2.2.1, s1.2.2.2.1, (FP.dadd s1.2.2.2.2.1 (FP.dmul s1.2.2.1 (FP.i2d ((c_t_place (s1.1).toNatClampNeg) - s1.2.1)))), (FP.dadd s1.2.2.2.2.2 (FP.dmul s1.2.2.2.1 (FP.i2d ((c_t_place (s1.1).toNatClampNeg) - s1.2.1))))) _ _ _ hP hD hS (lv_sub hl [0, 3, 5, 6, 1, 2, 7, 8, 9] rfl) h
  exact LOOP1 1000 (o1, c_t_thing, FP.dconst1, FP.dconst0, FP.dconst0, FP.dconst1) _ _ _ hP hD hS hl h
theorem mk_X8_hasImage_115 : Cond.constantDouble RX8 115 (4517329193108106637) ∈ wsX8_hasImage := by decide +kernel
theorem mmc_X8_hasImage_79 : Cond.code yJ9_abs_294c1 cJ9_abs_294c1 2 (some .double) ∈ wsX8_hasImage := by decide +kernel
theorem mmi_X8_hasImage_79 : Cond.initialized RJ9 ∈ wsX8_hasImage := by decide +kernel
theorem mml_X8_hasImage_79 : Cond.methodLink RX8 79 yJ9_abs_294c1 ∈ wsX8_hasImage := by decide +kernel
theorem mms_X8_hasImage_79 : Cond.static yJ9_abs_294c1 ∈ wsX8_hasImage := by decide +kernel
abbrev rm_X8_hasImage : Room := { frames := 2, cells := 0, slots := 0, locals := 61 }
set_option maxHeartbeats 4000000 in
set_option maxRecDepth 100000 in
theorem m_X8_hasImage (l : Launch) (D : va_G) (cI cD cB : ClassId) (a_t : Nat) (a_t_place : Nat) (a_t_half : Nat) (a_t_power : Nat) (a_t_glass : Nat) (p1 : Int32) (c_t_thrown : Int32) (c_t_pieces : Int32) (c_t_thing : Int32) (c_t_screen : Int32) (c_t_tall : Int32) (c_t_refused : Int32) (c_t_height : UInt64) (c_t_slope : UInt64) (c_t_cut : Int32) (c_t_sum : Int64) (c_t_place : Nat → Int32) (c_t_power : Nat → Int32) (c_t_glass : Nat → Int32) (R : Int32) (h : f_X8_hasImage p1 c_t_pieces c_t_thing c_t_screen c_t_place c_t_power c_t_glass = some R) : Ci l yX8_hasImage wsX8_hasImage rm_X8_hasImage D (TT cI cD cB) [.ref a_t, .int p1] [(a_t, .inr (10, [.int c_t_thrown, .int c_t_pieces, .ref a_t_place, .ref a_t_half, .ref a_t_power, .ref a_t_glass, .int c_t_thing, .int c_t_screen, .int c_t_tall, .int c_t_refused, .double c_t_height, .double c_t_slope, .int c_t_cut, .long c_t_sum])), (a_t_place, .inl (cI, 8, .inl c_t_place)), (a_t_power, .inl (cI, 8, .inl c_t_power)), (a_t_glass, .inl (cI, 8, .inl c_t_glass))] [(a_t, .inr (10, [.int c_t_thrown, .int c_t_pieces, .ref a_t_place, .ref a_t_half, .ref a_t_power, .ref a_t_glass, .int c_t_thing, .int c_t_screen, .int c_t_tall, .int c_t_refused, .double c_t_height, .double c_t_slope, .int c_t_cut, .long c_t_sum])), (a_t_place, .inl (cI, 8, .inl c_t_place)), (a_t_power, .inl (cI, 8, .inl c_t_power)), (a_t_glass, .inl (cI, 8, .inl c_t_glass))] R 0 0 := by
  unfold f_X8_hasImage at h
  refine st_i (cc := cX8_hasImage) (maxL := 2) (by decide) rfl (Nat.le_of_ble_eq_true rfl) (fun p e s m av below meth c A Q ls hx hb hml hts hown hA hK hNM hZ hP hD hS hl hfin => ?_)
  have hown : s.vm.findClass RX8 = some m.cls := hown
  have hl : lv_has ls 2 [(0, .ref a_t), (1, .int p1)] := hl
  refine lv_aload_n hx hb dX8_hasImage_0 rfl (lv_at hl 0 rfl) ?_
  refine lv_iload_n hx hb dX8_hasImage_1 rfl (lv_at hl 1 rfl) ?_
  refine lv_iconst (v := (3 : Int32)) hx hb dX8_hasImage_2 (by decide) ?_
  obtain ⟨o1, e2, h⟩ := bd_e h
  refine co_d (W0 := [(a_t, .inr (10, [.int c_t_thrown, .int c_t_pieces, .ref a_t_place, .ref a_t_half, .ref a_t_power, .ref a_t_glass, .int c_t_thing, .int c_t_screen, .int c_t_tall, .int c_t_refused, .double c_t_height, .double c_t_slope, .int c_t_cut, .long c_t_sum])), (a_t_place, .inl (cI, 8, .inl c_t_place)), (a_t_power, .inl (cI, 8, .inl c_t_power)), (a_t_glass, .inl (cI, 8, .inl c_t_glass))]) (wr := []) (W1 := [(a_t, .inr (10, [.int c_t_thrown, .int c_t_pieces, .ref a_t_place, .ref a_t_half, .ref a_t_power, .ref a_t_glass, .int c_t_thing, .int c_t_screen, .int c_t_tall, .int c_t_refused, .double c_t_height, .double c_t_slope, .int c_t_cut, .long c_t_sum])), (a_t_place, .inl (cI, 8, .inl c_t_place)), (a_t_power, .inl (cI, 8, .inl c_t_power)), (a_t_glass, .inl (cI, 8, .inl c_t_glass))]) (ws2 := [(a_t, .inr (10, [.int c_t_thrown, .int c_t_pieces, .ref a_t_place, .ref a_t_half, .ref a_t_power, .ref a_t_glass, .int c_t_thing, .int c_t_screen, .int c_t_tall, .int c_t_refused, .double c_t_height, .double c_t_slope, .int c_t_cut, .long c_t_sum])), (a_t_place, .inl (cI, 8, .inl c_t_place)), (a_t_power, .inl (cI, 8, .inl c_t_power)), (a_t_glass, .inl (cI, 8, .inl c_t_glass))]) (va_runV (C := RX8) (As := [.int p1, .int (3 : Int32)]) (rest := []) ⟨hx, hb, hml, hown, hts⟩ (m_X8_tableNow l D cI cD cB a_t a_t_place a_t_half a_t_power a_t_glass p1 (3 : Int32) c_t_thrown c_t_pieces c_t_thing c_t_screen c_t_tall c_t_refused c_t_height c_t_slope c_t_cut c_t_sum c_t_place c_t_power c_t_glass o1 e2 _) (cwV 2 hts gX8_hasImage_X8_tableNow rfl rfl rfl (by decide +kernel) ⟨Nat.le_of_ble_eq_true rfl, Nat.le_of_ble_eq_true rfl⟩) (my_preV (q := (RX8, TX8, 14)) (ci := 10) (q0 := 0) [0, 1, 2, 3] hP hK hNM hZ hD hS hA rfl rfl rfl rfl) rfl rfl hl.1 rfl (lv_room (Nat.le_of_ble_eq_true rfl)) dX8_hasImage_3 ⟨Nat.zero_le _, Nat.zero_le _⟩) hP hD hS hA [0, 1, 2, 3] [] [0, 1, 2, 3] rfl rfl rfl rfl rfl (by decide) (fun H locs hP hD hS => ?_)
  obtain ⟨g4, h⟩ := gd_e h
  refine my_abs hx hb (hml.trans hl.1.symm) hown (hts _ mml_X8_hasImage_79) (hts _ mms_X8_hasImage_79) (hts _ mmi_X8_hasImage_79) (hts _ mmc_X8_hasImage_79) (Nat.le_of_ble_eq_true rfl) (Nat.le_of_ble_eq_true rfl) (Nat.zero_le _) (Nat.zero_le _) g4 dX8_hasImage_6 ?_
  refine lv_ldc2d hx hb hown (hts _ mk_X8_hasImage_115) dX8_hasImage_9 ?_
  refine lv_dcmp hx hb dX8_hasImage_12 ?_
  refine lv_if_lt (tgt := 20) hx hb dX8_hasImage_13 (by decide) (fun q3 => ?_) (fun q3 => ?_)
  · replace h := ifp h q3
    refine lv_iconst (v := (0 : Int32)) hx hb dX8_hasImage_20 (by decide) ?_
    rw [← some_e h] at hfin
    exact hfin 21 _ _ _ dX8_hasImage_21 rfl hP hD hS
  · replace h := ifn h q3
    refine lv_iconst (v := (1 : Int32)) hx hb dX8_hasImage_16 (by decide) ?_
    refine lv_goto (tgt := 21) hx hb dX8_hasImage_17 (by decide) ?_
    rw [← some_e h] at hfin
    exact hfin 21 _ _ _ dX8_hasImage_21 rfl hP hD hS
abbrev rm_X8_back : Room := { frames := 2, cells := 0, slots := 0, locals := 61 }
set_option maxHeartbeats 4000000 in
set_option maxRecDepth 100000 in
theorem m_X8_back (l : Launch) (D : va_G) (cI cD cB : ClassId) (a_t : Nat) (a_t_place : Nat) (a_t_half : Nat) (a_t_power : Nat) (a_t_glass : Nat) (p1 : Int32) (c_t_thrown : Int32) (c_t_pieces : Int32) (c_t_thing : Int32) (c_t_screen : Int32) (c_t_tall : Int32) (c_t_refused : Int32) (c_t_height : UInt64) (c_t_slope : UInt64) (c_t_cut : Int32) (c_t_sum : Int64) (c_t_place : Nat → Int32) (c_t_power : Nat → Int32) (c_t_glass : Nat → Int32) (R : UInt64) (h : f_X8_back p1 c_t_pieces c_t_thing c_t_screen c_t_place c_t_power c_t_glass = some R) : Cd l yX8_back wsX8_back rm_X8_back D (TT cI cD cB) [.ref a_t, .int p1] [(a_t, .inr (10, [.int c_t_thrown, .int c_t_pieces, .ref a_t_place, .ref a_t_half, .ref a_t_power, .ref a_t_glass, .int c_t_thing, .int c_t_screen, .int c_t_tall, .int c_t_refused, .double c_t_height, .double c_t_slope, .int c_t_cut, .long c_t_sum])), (a_t_place, .inl (cI, 8, .inl c_t_place)), (a_t_power, .inl (cI, 8, .inl c_t_power)), (a_t_glass, .inl (cI, 8, .inl c_t_glass))] [(a_t, .inr (10, [.int c_t_thrown, .int c_t_pieces, .ref a_t_place, .ref a_t_half, .ref a_t_power, .ref a_t_glass, .int c_t_thing, .int c_t_screen, .int c_t_tall, .int c_t_refused, .double c_t_height, .double c_t_slope, .int c_t_cut, .long c_t_sum])), (a_t_place, .inl (cI, 8, .inl c_t_place)), (a_t_power, .inl (cI, 8, .inl c_t_power)), (a_t_glass, .inl (cI, 8, .inl c_t_glass))] R 0 0 := by
  unfold f_X8_back at h
  refine st_d (cc := cX8_back) (maxL := 2) (by decide) rfl (Nat.le_of_ble_eq_true rfl) (fun p e s m av below meth c A Q ls hx hb hml hts hown hA hK hNM hZ hP hD hS hl hfin => ?_)
  have hown : s.vm.findClass RX8 = some m.cls := hown
  have hl : lv_has ls 2 [(0, .ref a_t), (1, .int p1)] := hl
  refine lv_aload_n hx hb dX8_back_0 rfl (lv_at hl 0 rfl) ?_
  refine lv_iload_n hx hb dX8_back_1 rfl (lv_at hl 1 rfl) ?_
  refine lv_iconst (v := (1 : Int32)) hx hb dX8_back_2 (by decide) ?_
  obtain ⟨o1, e2, h⟩ := bd_e h
  refine co_d (W0 := [(a_t, .inr (10, [.int c_t_thrown, .int c_t_pieces, .ref a_t_place, .ref a_t_half, .ref a_t_power, .ref a_t_glass, .int c_t_thing, .int c_t_screen, .int c_t_tall, .int c_t_refused, .double c_t_height, .double c_t_slope, .int c_t_cut, .long c_t_sum])), (a_t_place, .inl (cI, 8, .inl c_t_place)), (a_t_power, .inl (cI, 8, .inl c_t_power)), (a_t_glass, .inl (cI, 8, .inl c_t_glass))]) (wr := []) (W1 := [(a_t, .inr (10, [.int c_t_thrown, .int c_t_pieces, .ref a_t_place, .ref a_t_half, .ref a_t_power, .ref a_t_glass, .int c_t_thing, .int c_t_screen, .int c_t_tall, .int c_t_refused, .double c_t_height, .double c_t_slope, .int c_t_cut, .long c_t_sum])), (a_t_place, .inl (cI, 8, .inl c_t_place)), (a_t_power, .inl (cI, 8, .inl c_t_power)), (a_t_glass, .inl (cI, 8, .inl c_t_glass))]) (ws2 := [(a_t, .inr (10, [.int c_t_thrown, .int c_t_pieces, .ref a_t_place, .ref a_t_half, .ref a_t_power, .ref a_t_glass, .int c_t_thing, .int c_t_screen, .int c_t_tall, .int c_t_refused, .double c_t_height, .double c_t_slope, .int c_t_cut, .long c_t_sum])), (a_t_place, .inl (cI, 8, .inl c_t_place)), (a_t_power, .inl (cI, 8, .inl c_t_power)), (a_t_glass, .inl (cI, 8, .inl c_t_glass))]) (va_runV (C := RX8) (As := [.int p1, .int (1 : Int32)]) (rest := []) ⟨hx, hb, hml, hown, hts⟩ (m_X8_tableNow l D cI cD cB a_t a_t_place a_t_half a_t_power a_t_glass p1 (1 : Int32) c_t_thrown c_t_pieces c_t_thing c_t_screen c_t_tall c_t_refused c_t_height c_t_slope c_t_cut c_t_sum c_t_place c_t_power c_t_glass o1 e2 _) (cwV 2 hts gX8_back_X8_tableNow rfl rfl rfl (by decide +kernel) ⟨Nat.le_of_ble_eq_true rfl, Nat.le_of_ble_eq_true rfl⟩) (my_preV (q := (RX8, TX8, 14)) (ci := 10) (q0 := 0) [0, 1, 2, 3] hP hK hNM hZ hD hS hA rfl rfl rfl rfl) rfl rfl hl.1 rfl (lv_room (Nat.le_of_ble_eq_true rfl)) dX8_back_3 ⟨Nat.zero_le _, Nat.zero_le _⟩) hP hD hS hA [0, 1, 2, 3] [] [0, 1, 2, 3] rfl rfl rfl rfl rfl (by decide) (fun H locs hP hD hS => ?_)
  refine lv_aload_n hx hb dX8_back_6 rfl (lv_at hl 0 rfl) ?_
  refine lv_iload_n hx hb dX8_back_7 rfl (lv_at hl 1 rfl) ?_
  refine lv_iconst (v := (3 : Int32)) hx hb dX8_back_8 (by decide) ?_
  obtain ⟨o3, e4, h⟩ := bd_e h
  refine co_d (W0 := [(a_t, .inr (10, [.int c_t_thrown, .int c_t_pieces, .ref a_t_place, .ref a_t_half, .ref a_t_power, .ref a_t_glass, .int c_t_thing, .int c_t_screen, .int c_t_tall, .int c_t_refused, .double c_t_height, .double c_t_slope, .int c_t_cut, .long c_t_sum])), (a_t_place, .inl (cI, 8, .inl c_t_place)), (a_t_power, .inl (cI, 8, .inl c_t_power)), (a_t_glass, .inl (cI, 8, .inl c_t_glass))]) (wr := []) (W1 := [(a_t, .inr (10, [.int c_t_thrown, .int c_t_pieces, .ref a_t_place, .ref a_t_half, .ref a_t_power, .ref a_t_glass, .int c_t_thing, .int c_t_screen, .int c_t_tall, .int c_t_refused, .double c_t_height, .double c_t_slope, .int c_t_cut, .long c_t_sum])), (a_t_place, .inl (cI, 8, .inl c_t_place)), (a_t_power, .inl (cI, 8, .inl c_t_power)), (a_t_glass, .inl (cI, 8, .inl c_t_glass))]) (ws2 := [(a_t, .inr (10, [.int c_t_thrown, .int c_t_pieces, .ref a_t_place, .ref a_t_half, .ref a_t_power, .ref a_t_glass, .int c_t_thing, .int c_t_screen, .int c_t_tall, .int c_t_refused, .double c_t_height, .double c_t_slope, .int c_t_cut, .long c_t_sum])), (a_t_place, .inl (cI, 8, .inl c_t_place)), (a_t_power, .inl (cI, 8, .inl c_t_power)), (a_t_glass, .inl (cI, 8, .inl c_t_glass))]) (va_runV (C := RX8) (As := [.int p1, .int (3 : Int32)]) (rest := [.double o1]) ⟨hx, hb, hml, hown, hts⟩ (m_X8_tableNow l D cI cD cB a_t a_t_place a_t_half a_t_power a_t_glass p1 (3 : Int32) c_t_thrown c_t_pieces c_t_thing c_t_screen c_t_tall c_t_refused c_t_height c_t_slope c_t_cut c_t_sum c_t_place c_t_power c_t_glass o3 e4 _) (cwV 2 hts gX8_back_X8_tableNow rfl rfl rfl (by decide +kernel) ⟨Nat.le_of_ble_eq_true rfl, Nat.le_of_ble_eq_true rfl⟩) (my_preV (q := (RX8, TX8, 14)) (ci := 10) (q0 := 0) [0, 1, 2, 3] hP hK hNM hZ hD hS hA rfl rfl rfl rfl) rfl rfl hl.1 rfl (lv_room (Nat.le_of_ble_eq_true rfl)) dX8_back_9 ⟨Nat.zero_le _, Nat.zero_le _⟩) hP hD hS hA [0, 1, 2, 3] [] [0, 1, 2, 3] rfl rfl rfl rfl rfl (by decide) (fun H locs hP hD hS => ?_)
  obtain ⟨g5, h⟩ := gd_e h
  refine lv_ddiv hx hb dX8_back_12 (n64_n g5) ?_
  refine lv_dneg hx hb dX8_back_13 ?_
  obtain ⟨o6, e7, h⟩ := bd_e h
  refine co_d (W0 := []) (wr := [(a_t, .inr (10, [.int c_t_thrown, .int c_t_pieces, .ref a_t_place, .ref a_t_half, .ref a_t_power, .ref a_t_glass, .int c_t_thing, .int c_t_screen, .int c_t_tall, .int c_t_refused, .double c_t_height, .double c_t_slope, .int c_t_cut, .long c_t_sum])), (a_t_place, .inl (cI, 8, .inl c_t_place)), (a_t_power, .inl (cI, 8, .inl c_t_power)), (a_t_glass, .inl (cI, 8, .inl c_t_glass))]) (W1 := []) (ws2 := [(a_t, .inr (10, [.int c_t_thrown, .int c_t_pieces, .ref a_t_place, .ref a_t_half, .ref a_t_power, .ref a_t_glass, .int c_t_thing, .int c_t_screen, .int c_t_tall, .int c_t_refused, .double c_t_height, .double c_t_slope, .int c_t_cut, .long c_t_sum])), (a_t_place, .inl (cI, 8, .inl c_t_place)), (a_t_power, .inl (cI, 8, .inl c_t_power)), (a_t_glass, .inl (cI, 8, .inl c_t_glass))]) (va_runS (As := [.double (FP.dneg (FP.ddiv o1 o3))]) (rest := []) ⟨hx, hb, hml, hown, hts⟩ (m_X8_plain l D cI cD cB (FP.dneg (FP.ddiv o1 o3)) o6 e7 _) (va_cwS 1 hts gX8_back_X8_plain rfl rfl rfl (by decide +kernel) ⟨Nat.le_of_ble_eq_true rfl, Nat.le_of_ble_eq_true rfl⟩) (my_preS [] hP hK hNM hZ hD hS hA rfl rfl) rfl rfl hl.1 rfl (lv_room (Nat.le_of_ble_eq_true rfl)) dX8_back_14 ⟨Nat.zero_le _, Nat.zero_le _⟩) hP hD hS hA [] [0, 1, 2, 3] [0, 1, 2, 3] rfl rfl rfl rfl rfl (by decide) (fun H locs hP hD hS => ?_)
  rw [← some_e h] at hfin
  exact hfin 17 _ _ _ dX8_back_17 hP hD hS
abbrev rm_X8_apartNow : Room := { frames := 3, cells := 0, slots := 0, locals := 82 }
set_option maxHeartbeats 4000000 in
set_option maxRecDepth 100000 in
theorem m_X8_apartNow (l : Launch) (D : va_G) (cI cD cB : ClassId) (a_t : Nat) (a_t_place : Nat) (a_t_half : Nat) (a_t_power : Nat) (a_t_glass : Nat) (c_t_thrown : Int32) (c_t_pieces : Int32) (c_t_thing : Int32) (c_t_screen : Int32) (c_t_tall : Int32) (c_t_refused : Int32) (c_t_height : UInt64) (c_t_slope : UInt64) (c_t_cut : Int32) (c_t_sum : Int64) (c_t_place : Nat → Int32) (c_t_power : Nat → Int32) (c_t_glass : Nat → Int32) (R : UInt64) (h : f_X8_apartNow c_t_pieces c_t_thing c_t_screen c_t_place c_t_power c_t_glass = some R) : Cd l yX8_apartNow wsX8_apartNow rm_X8_apartNow D (TT cI cD cB) [.ref a_t] [(a_t, .inr (10, [.int c_t_thrown, .int c_t_pieces, .ref a_t_place, .ref a_t_half, .ref a_t_power, .ref a_t_glass, .int c_t_thing, .int c_t_screen, .int c_t_tall, .int c_t_refused, .double c_t_height, .double c_t_slope, .int c_t_cut, .long c_t_sum])), (a_t_place, .inl (cI, 8, .inl c_t_place)), (a_t_power, .inl (cI, 8, .inl c_t_power)), (a_t_glass, .inl (cI, 8, .inl c_t_glass))] [(a_t, .inr (10, [.int c_t_thrown, .int c_t_pieces, .ref a_t_place, .ref a_t_half, .ref a_t_power, .ref a_t_glass, .int c_t_thing, .int c_t_screen, .int c_t_tall, .int c_t_refused, .double c_t_height, .double c_t_slope, .int c_t_cut, .long c_t_sum])), (a_t_place, .inl (cI, 8, .inl c_t_place)), (a_t_power, .inl (cI, 8, .inl c_t_power)), (a_t_glass, .inl (cI, 8, .inl c_t_glass))] R 0 0 := by
  unfold f_X8_apartNow at h
  refine st_d (cc := cX8_apartNow) (maxL := 1) (by decide) rfl (Nat.le_of_ble_eq_true rfl) (fun p e s m av below meth c A Q ls hx hb hml hts hown hA hK hNM hZ hP hD hS hl hfin => ?_)
  have hown : s.vm.findClass RX8 = some m.cls := hown
  have hl : lv_has ls 1 [(0, .ref a_t)] := hl
  refine lv_aload_n hx hb dX8_apartNow_0 rfl (lv_at hl 0 rfl) ?_
  refine lv_iconst (v := (0 : Int32)) hx hb dX8_apartNow_1 (by decide) ?_
  obtain ⟨o1, e2, h⟩ := bd_e h
  refine co_i (W0 := [(a_t, .inr (10, [.int c_t_thrown, .int c_t_pieces, .ref a_t_place, .ref a_t_half, .ref a_t_power, .ref a_t_glass, .int c_t_thing, .int c_t_screen, .int c_t_tall, .int c_t_refused, .double c_t_height, .double c_t_slope, .int c_t_cut, .long c_t_sum])), (a_t_place, .inl (cI, 8, .inl c_t_place)), (a_t_power, .inl (cI, 8, .inl c_t_power)), (a_t_glass, .inl (cI, 8, .inl c_t_glass))]) (wr := []) (W1 := [(a_t, .inr (10, [.int c_t_thrown, .int c_t_pieces, .ref a_t_place, .ref a_t_half, .ref a_t_power, .ref a_t_glass, .int c_t_thing, .int c_t_screen, .int c_t_tall, .int c_t_refused, .double c_t_height, .double c_t_slope, .int c_t_cut, .long c_t_sum])), (a_t_place, .inl (cI, 8, .inl c_t_place)), (a_t_power, .inl (cI, 8, .inl c_t_power)), (a_t_glass, .inl (cI, 8, .inl c_t_glass))]) (ws2 := [(a_t, .inr (10, [.int c_t_thrown, .int c_t_pieces, .ref a_t_place, .ref a_t_half, .ref a_t_power, .ref a_t_glass, .int c_t_thing, .int c_t_screen, .int c_t_tall, .int c_t_refused, .double c_t_height, .double c_t_slope, .int c_t_cut, .long c_t_sum])), (a_t_place, .inl (cI, 8, .inl c_t_place)), (a_t_power, .inl (cI, 8, .inl c_t_power)), (a_t_glass, .inl (cI, 8, .inl c_t_glass))]) (va_runV (C := RX8) (As := [.int (0 : Int32)]) (rest := []) ⟨hx, hb, hml, hown, hts⟩ (m_X8_hasImage l D cI cD cB a_t a_t_place a_t_half a_t_power a_t_glass (0 : Int32) c_t_thrown c_t_pieces c_t_thing c_t_screen c_t_tall c_t_refused c_t_height c_t_slope c_t_cut c_t_sum c_t_place c_t_power c_t_glass o1 e2 _) (cwV 1 hts gX8_apartNow_X8_hasImage rfl rfl rfl (by decide +kernel) ⟨Nat.le_of_ble_eq_true rfl, Nat.le_of_ble_eq_true rfl⟩) (my_preV (q := (RX8, TX8, 14)) (ci := 10) (q0 := 0) [0, 1, 2, 3] hP hK hNM hZ hD hS hA rfl rfl rfl rfl) rfl rfl hl.1 rfl (lv_room (Nat.le_of_ble_eq_true rfl)) dX8_apartNow_2 ⟨Nat.zero_le _, Nat.zero_le _⟩) hP hD hS hA [0, 1, 2, 3] [] [0, 1, 2, 3] rfl rfl rfl rfl rfl (by decide) (fun H locs hP hD hS => ?_)
  refine lv_if_eq (tgt := 33) hx hb dX8_apartNow_5 (by decide) (fun q3 => ?_) (fun q3 => ?_)
  · replace h := ifp h q3
    refine lv_dconst0 hx hb dX8_apartNow_33 ?_
    rw [← some_e h] at hfin
    exact hfin 34 _ _ _ dX8_apartNow_34 hP hD hS
  · replace h := ifn h q3
    refine lv_aload_n hx hb dX8_apartNow_8 rfl (lv_at hl 0 rfl) ?_
    refine lv_iconst (v := (2 : Int32)) hx hb dX8_apartNow_9 (by decide) ?_
    obtain ⟨o4, e5, h⟩ := bd_e h
    refine co_i (W0 := [(a_t, .inr (10, [.int c_t_thrown, .int c_t_pieces, .ref a_t_place, .ref a_t_half, .ref a_t_power, .ref a_t_glass, .int c_t_thing, .int c_t_screen, .int c_t_tall, .int c_t_refused, .double c_t_height, .double c_t_slope, .int c_t_cut, .long c_t_sum])), (a_t_place, .inl (cI, 8, .inl c_t_place)), (a_t_power, .inl (cI, 8, .inl c_t_power)), (a_t_glass, .inl (cI, 8, .inl c_t_glass))]) (wr := []) (W1 := [(a_t, .inr (10, [.int c_t_thrown, .int c_t_pieces, .ref a_t_place, .ref a_t_half, .ref a_t_power, .ref a_t_glass, .int c_t_thing, .int c_t_screen, .int c_t_tall, .int c_t_refused, .double c_t_height, .double c_t_slope, .int c_t_cut, .long c_t_sum])), (a_t_place, .inl (cI, 8, .inl c_t_place)), (a_t_power, .inl (cI, 8, .inl c_t_power)), (a_t_glass, .inl (cI, 8, .inl c_t_glass))]) (ws2 := [(a_t, .inr (10, [.int c_t_thrown, .int c_t_pieces, .ref a_t_place, .ref a_t_half, .ref a_t_power, .ref a_t_glass, .int c_t_thing, .int c_t_screen, .int c_t_tall, .int c_t_refused, .double c_t_height, .double c_t_slope, .int c_t_cut, .long c_t_sum])), (a_t_place, .inl (cI, 8, .inl c_t_place)), (a_t_power, .inl (cI, 8, .inl c_t_power)), (a_t_glass, .inl (cI, 8, .inl c_t_glass))]) (va_runV (C := RX8) (As := [.int (2 : Int32)]) (rest := []) ⟨hx, hb, hml, hown, hts⟩ (m_X8_hasImage l D cI cD cB a_t a_t_place a_t_half a_t_power a_t_glass (2 : Int32) c_t_thrown c_t_pieces c_t_thing c_t_screen c_t_tall c_t_refused c_t_height c_t_slope c_t_cut c_t_sum c_t_place c_t_power c_t_glass o4 e5 _) (cwV 1 hts gX8_apartNow_X8_hasImage rfl rfl rfl (by decide +kernel) ⟨Nat.le_of_ble_eq_true rfl, Nat.le_of_ble_eq_true rfl⟩) (my_preV (q := (RX8, TX8, 14)) (ci := 10) (q0 := 0) [0, 1, 2, 3] hP hK hNM hZ hD hS hA rfl rfl rfl rfl) rfl rfl hl.1 rfl (lv_room (Nat.le_of_ble_eq_true rfl)) dX8_apartNow_10 ⟨Nat.zero_le _, Nat.zero_le _⟩) hP hD hS hA [0, 1, 2, 3] [] [0, 1, 2, 3] rfl rfl rfl rfl rfl (by decide) (fun H locs hP hD hS => ?_)
    refine lv_if_eq (tgt := 33) hx hb dX8_apartNow_13 (by decide) (fun q6 => ?_) (fun q6 => ?_)
    · replace h := ifp h q6
      refine lv_dconst0 hx hb dX8_apartNow_33 ?_
      rw [← some_e h] at hfin
      exact hfin 34 _ _ _ dX8_apartNow_34 hP hD hS
    · replace h := ifn h q6
      refine lv_aload_n hx hb dX8_apartNow_16 rfl (lv_at hl 0 rfl) ?_
      refine lv_iconst (v := (2 : Int32)) hx hb dX8_apartNow_17 (by decide) ?_
      obtain ⟨o7, e8, h⟩ := bd_e h
      refine co_d (W0 := [(a_t, .inr (10, [.int c_t_thrown, .int c_t_pieces, .ref a_t_place, .ref a_t_half, .ref a_t_power, .ref a_t_glass, .int c_t_thing, .int c_t_screen, .int c_t_tall, .int c_t_refused, .double c_t_height, .double c_t_slope, .int c_t_cut, .long c_t_sum])), (a_t_place, .inl (cI, 8, .inl c_t_place)), (a_t_power, .inl (cI, 8, .inl c_t_power)), (a_t_glass, .inl (cI, 8, .inl c_t_glass))]) (wr := []) (W1 := [(a_t, .inr (10, [.int c_t_thrown, .int c_t_pieces, .ref a_t_place, .ref a_t_half, .ref a_t_power, .ref a_t_glass, .int c_t_thing, .int c_t_screen, .int c_t_tall, .int c_t_refused, .double c_t_height, .double c_t_slope, .int c_t_cut, .long c_t_sum])), (a_t_place, .inl (cI, 8, .inl c_t_place)), (a_t_power, .inl (cI, 8, .inl c_t_power)), (a_t_glass, .inl (cI, 8, .inl c_t_glass))]) (ws2 := [(a_t, .inr (10, [.int c_t_thrown, .int c_t_pieces, .ref a_t_place, .ref a_t_half, .ref a_t_power, .ref a_t_glass, .int c_t_thing, .int c_t_screen, .int c_t_tall, .int c_t_refused, .double c_t_height, .double c_t_slope, .int c_t_cut, .long c_t_sum])), (a_t_place, .inl (cI, 8, .inl c_t_place)), (a_t_power, .inl (cI, 8, .inl c_t_power)), (a_t_glass, .inl (cI, 8, .inl c_t_glass))]) (va_runV (C := RX8) (As := [.int (2 : Int32)]) (rest := []) ⟨hx, hb, hml, hown, hts⟩ (m_X8_back l D cI cD cB a_t a_t_place a_t_half a_t_power a_t_glass (2 : Int32) c_t_thrown c_t_pieces c_t_thing c_t_screen c_t_tall c_t_refused c_t_height c_t_slope c_t_cut c_t_sum c_t_place c_t_power c_t_glass o7 e8 _) (cwV 1 hts gX8_apartNow_X8_back rfl rfl rfl (by decide +kernel) ⟨Nat.le_of_ble_eq_true rfl, Nat.le_of_ble_eq_true rfl⟩) (my_preV (q := (RX8, TX8, 14)) (ci := 10) (q0 := 0) [0, 1, 2, 3] hP hK hNM hZ hD hS hA rfl rfl rfl rfl) rfl rfl hl.1 rfl (lv_room (Nat.le_of_ble_eq_true rfl)) dX8_apartNow_18 ⟨Nat.zero_le _, Nat.zero_le _⟩) hP hD hS hA [0, 1, 2, 3] [] [0, 1, 2, 3] rfl rfl rfl rfl rfl (by decide) (fun H locs hP hD hS => ?_)
      refine lv_aload_n hx hb dX8_apartNow_21 rfl (lv_at hl 0 rfl) ?_
      refine lv_iconst (v := (0 : Int32)) hx hb dX8_apartNow_22 (by decide) ?_
      obtain ⟨o9, e10, h⟩ := bd_e h
      refine co_d (W0 := [(a_t, .inr (10, [.int c_t_thrown, .int c_t_pieces, .ref a_t_place, .ref a_t_half, .ref a_t_power, .ref a_t_glass, .int c_t_thing, .int c_t_screen, .int c_t_tall, .int c_t_refused, .double c_t_height, .double c_t_slope, .int c_t_cut, .long c_t_sum])), (a_t_place, .inl (cI, 8, .inl c_t_place)), (a_t_power, .inl (cI, 8, .inl c_t_power)), (a_t_glass, .inl (cI, 8, .inl c_t_glass))]) (wr := []) (W1 := [(a_t, .inr (10, [.int c_t_thrown, .int c_t_pieces, .ref a_t_place, .ref a_t_half, .ref a_t_power, .ref a_t_glass, .int c_t_thing, .int c_t_screen, .int c_t_tall, .int c_t_refused, .double c_t_height, .double c_t_slope, .int c_t_cut, .long c_t_sum])), (a_t_place, .inl (cI, 8, .inl c_t_place)), (a_t_power, .inl (cI, 8, .inl c_t_power)), (a_t_glass, .inl (cI, 8, .inl c_t_glass))]) (ws2 := [(a_t, .inr (10, [.int c_t_thrown, .int c_t_pieces, .ref a_t_place, .ref a_t_half, .ref a_t_power, .ref a_t_glass, .int c_t_thing, .int c_t_screen, .int c_t_tall, .int c_t_refused, .double c_t_height, .double c_t_slope, .int c_t_cut, .long c_t_sum])), (a_t_place, .inl (cI, 8, .inl c_t_place)), (a_t_power, .inl (cI, 8, .inl c_t_power)), (a_t_glass, .inl (cI, 8, .inl c_t_glass))]) (va_runV (C := RX8) (As := [.int (0 : Int32)]) (rest := [.double o7]) ⟨hx, hb, hml, hown, hts⟩ (m_X8_back l D cI cD cB a_t a_t_place a_t_half a_t_power a_t_glass (0 : Int32) c_t_thrown c_t_pieces c_t_thing c_t_screen c_t_tall c_t_refused c_t_height c_t_slope c_t_cut c_t_sum c_t_place c_t_power c_t_glass o9 e10 _) (cwV 1 hts gX8_apartNow_X8_back rfl rfl rfl (by decide +kernel) ⟨Nat.le_of_ble_eq_true rfl, Nat.le_of_ble_eq_true rfl⟩) (my_preV (q := (RX8, TX8, 14)) (ci := 10) (q0 := 0) [0, 1, 2, 3] hP hK hNM hZ hD hS hA rfl rfl rfl rfl) rfl rfl hl.1 rfl (lv_room (Nat.le_of_ble_eq_true rfl)) dX8_apartNow_23 ⟨Nat.zero_le _, Nat.zero_le _⟩) hP hD hS hA [0, 1, 2, 3] [] [0, 1, 2, 3] rfl rfl rfl rfl rfl (by decide) (fun H locs hP hD hS => ?_)
      obtain ⟨g11, h⟩ := gd_e h
      refine lv_dsub hx hb dX8_apartNow_26 (n64_n g11) ?_
      obtain ⟨o12, e13, h⟩ := bd_e h
      refine co_d (W0 := []) (wr := [(a_t, .inr (10, [.int c_t_thrown, .int c_t_pieces, .ref a_t_place, .ref a_t_half, .ref a_t_power, .ref a_t_glass, .int c_t_thing, .int c_t_screen, .int c_t_tall, .int c_t_refused, .double c_t_height, .double c_t_slope, .int c_t_cut, .long c_t_sum])), (a_t_place, .inl (cI, 8, .inl c_t_place)), (a_t_power, .inl (cI, 8, .inl c_t_power)), (a_t_glass, .inl (cI, 8, .inl c_t_glass))]) (W1 := []) (ws2 := [(a_t, .inr (10, [.int c_t_thrown, .int c_t_pieces, .ref a_t_place, .ref a_t_half, .ref a_t_power, .ref a_t_glass, .int c_t_thing, .int c_t_screen, .int c_t_tall, .int c_t_refused, .double c_t_height, .double c_t_slope, .int c_t_cut, .long c_t_sum])), (a_t_place, .inl (cI, 8, .inl c_t_place)), (a_t_power, .inl (cI, 8, .inl c_t_power)), (a_t_glass, .inl (cI, 8, .inl c_t_glass))]) (va_runS (As := [.double (FP.dsub o7 o9)]) (rest := []) ⟨hx, hb, hml, hown, hts⟩ (m_X8_plain l D cI cD cB (FP.dsub o7 o9) o12 e13 _) (va_cwS 1 hts gX8_apartNow_X8_plain rfl rfl rfl (by decide +kernel) ⟨Nat.le_of_ble_eq_true rfl, Nat.le_of_ble_eq_true rfl⟩) (my_preS [] hP hK hNM hZ hD hS hA rfl rfl) rfl rfl hl.1 rfl (lv_room (Nat.le_of_ble_eq_true rfl)) dX8_apartNow_27 ⟨Nat.zero_le _, Nat.zero_le _⟩) hP hD hS hA [] [0, 1, 2, 3] [0, 1, 2, 3] rfl rfl rfl rfl rfl (by decide) (fun H locs hP hD hS => ?_)
      refine lv_goto (tgt := 34) hx hb dX8_apartNow_30 (by decide) ?_
      rw [← some_e h] at hfin
      exact hfin 34 _ _ _ dX8_apartNow_34 hP hD hS
theorem mc_X8_apart_X8 : ∀ w ∈ wsX80, w ∈ wsX8_apart := by decide +kernel
theorem mf_X8_apart_29 : Cond.fieldLink RX8 29 "LensbenchModel" "thrown" "I" ∈ wsX8_apart := by decide +kernel
abbrev rm_X8_apart : Room := { frames := 4, cells := 0, slots := 0, locals := 102 }
set_option maxHeartbeats 4000000 in
set_option maxRecDepth 100000 in
theorem m_X8_apart (l : Launch) (D : va_G) (cI cD cB : ClassId) (a_t : Nat) (a_t_place : Nat) (a_t_half : Nat) (a_t_power : Nat) (a_t_glass : Nat) (c_t_thrown : Int32) (c_t_pieces : Int32) (c_t_thing : Int32) (c_t_screen : Int32) (c_t_tall : Int32) (c_t_refused : Int32) (c_t_height : UInt64) (c_t_slope : UInt64) (c_t_cut : Int32) (c_t_sum : Int64) (c_t_place : Nat → Int32) (c_t_power : Nat → Int32) (c_t_glass : Nat → Int32) (R : UInt64 × Int32) (h : f_X8_apart c_t_pieces c_t_thing c_t_screen c_t_place c_t_power c_t_glass = some R) : Cd l yX8_apart wsX8_apart rm_X8_apart D (TT cI cD cB) [.ref a_t] [(a_t, .inr (10, [.int c_t_thrown, .int c_t_pieces, .ref a_t_place, .ref a_t_half, .ref a_t_power, .ref a_t_glass, .int c_t_thing, .int c_t_screen, .int c_t_tall, .int c_t_refused, .double c_t_height, .double c_t_slope, .int c_t_cut, .long c_t_sum])), (a_t_place, .inl (cI, 8, .inl c_t_place)), (a_t_power, .inl (cI, 8, .inl c_t_power)), (a_t_glass, .inl (cI, 8, .inl c_t_glass))] [(a_t, .inr (10, [.int R.2, .int c_t_pieces, .ref a_t_place, .ref a_t_half, .ref a_t_power, .ref a_t_glass, .int c_t_thing, .int c_t_screen, .int c_t_tall, .int c_t_refused, .double c_t_height, .double c_t_slope, .int c_t_cut, .long c_t_sum])), (a_t_place, .inl (cI, 8, .inl c_t_place)), (a_t_power, .inl (cI, 8, .inl c_t_power)), (a_t_glass, .inl (cI, 8, .inl c_t_glass))] R.1 0 0 := by
  unfold f_X8_apart at h
  refine st_d (cc := cX8_apart) (maxL := 1) (by decide) rfl (Nat.le_of_ble_eq_true rfl) (fun p e s m av below meth c A Q ls hx hb hml hts hown hA hK hNM hZ hP hD hS hl hfin => ?_)
  have hown : s.vm.findClass RX8 = some m.cls := hown
  have hl : lv_has ls 1 [(0, .ref a_t)] := hl
  refine lv_aload_n hx hb dX8_apart_0 rfl (lv_at hl 0 rfl) ?_
  refine lv_iconst (v := (0 : Int32)) hx hb dX8_apart_1 (by decide) ?_
  refine va_put (D := D) (ci := 10) (v := .int (0 : Int32)) (ty := .int) (C := RX8) (T := TX8) (N := 14) hx hb hts mc_X8_apart_X8 tyX8 tyX8_ok nmX8 hown hK hP hD hS 0 rfl rfl 0 (by decide) (hts _ mf_X8_apart_29) (fun _ h9 => h9) rfl (tyX8_ok 0 (by decide)) rfl rfl (Nat.le_of_ble_eq_true rfl) dX8_apart_2 (fun H locs hP hD hS => ?_)
  have hP : va_P D vwCl [(a_t, .inr (10, [.int (0 : Int32), .int c_t_pieces, .ref a_t_place, .ref a_t_half, .ref a_t_power, .ref a_t_glass, .int c_t_thing, .int c_t_screen, .int c_t_tall, .int c_t_refused, .double c_t_height, .double c_t_slope, .int c_t_cut, .long c_t_sum])), (a_t_place, .inl (cI, 8, .inl c_t_place)), (a_t_power, .inl (cI, 8, .inl c_t_power)), (a_t_glass, .inl (cI, 8, .inl c_t_glass))] H := hP
  have hD : va_D A [(a_t, .inr (10, [.int (0 : Int32), .int c_t_pieces, .ref a_t_place, .ref a_t_half, .ref a_t_power, .ref a_t_glass, .int c_t_thing, .int c_t_screen, .int c_t_tall, .int c_t_refused, .double c_t_height, .double c_t_slope, .int c_t_cut, .long c_t_sum])), (a_t_place, .inl (cI, 8, .inl c_t_place)), (a_t_power, .inl (cI, 8, .inl c_t_power)), (a_t_glass, .inl (cI, 8, .inl c_t_glass))] := hD
  refine lv_aload_n hx hb dX8_apart_5 rfl (lv_at hl 0 rfl) ?_
  obtain ⟨o1, e2, h⟩ := bd_e h
  refine co_d (W0 := [(a_t, .inr (10, [.int (0 : Int32), .int c_t_pieces, .ref a_t_place, .ref a_t_half, .ref a_t_power, .ref a_t_glass, .int c_t_thing, .int c_t_screen, .int c_t_tall, .int c_t_refused, .double c_t_height, .double c_t_slope, .int c_t_cut, .long c_t_sum])), (a_t_place, .inl (cI, 8, .inl c_t_place)), (a_t_power, .inl (cI, 8, .inl c_t_power)), (a_t_glass, .inl (cI, 8, .inl c_t_glass))]) (wr := []) (W1 := [(a_t, .inr (10, [.int (0 : Int32), .int c_t_pieces, .ref a_t_place, .ref a_t_half, .ref a_t_power, .ref a_t_glass, .int c_t_thing, .int c_t_screen, .int c_t_tall, .int c_t_refused, .double c_t_height, .double c_t_slope, .int c_t_cut, .long c_t_sum])), (a_t_place, .inl (cI, 8, .inl c_t_place)), (a_t_power, .inl (cI, 8, .inl c_t_power)), (a_t_glass, .inl (cI, 8, .inl c_t_glass))]) (ws2 := [(a_t, .inr (10, [.int (0 : Int32), .int c_t_pieces, .ref a_t_place, .ref a_t_half, .ref a_t_power, .ref a_t_glass, .int c_t_thing, .int c_t_screen, .int c_t_tall, .int c_t_refused, .double c_t_height, .double c_t_slope, .int c_t_cut, .long c_t_sum])), (a_t_place, .inl (cI, 8, .inl c_t_place)), (a_t_power, .inl (cI, 8, .inl c_t_power)), (a_t_glass, .inl (cI, 8, .inl c_t_glass))]) (va_runV (C := RX8) (As := []) (rest := []) ⟨hx, hb, hml, hown, hts⟩ (m_X8_apartNow l D cI cD cB a_t a_t_place a_t_half a_t_power a_t_glass (0 : Int32) c_t_pieces c_t_thing c_t_screen c_t_tall c_t_refused c_t_height c_t_slope c_t_cut c_t_sum c_t_place c_t_power c_t_glass o1 e2 _) (cwV 0 hts gX8_apart_X8_apartNow rfl rfl rfl (by decide +kernel) ⟨Nat.le_of_ble_eq_true rfl, Nat.le_of_ble_eq_true rfl⟩) (my_preV (q := (RX8, TX8, 14)) (ci := 10) (q0 := 0) [0, 1, 2, 3] hP hK hNM hZ hD hS hA rfl rfl rfl rfl) rfl rfl hl.1 rfl (lv_room (Nat.le_of_ble_eq_true rfl)) dX8_apart_6 ⟨Nat.zero_le _, Nat.zero_le _⟩) hP hD hS hA [0, 1, 2, 3] [] [0, 1, 2, 3] rfl rfl rfl rfl rfl (by decide) (fun H locs hP hD hS => ?_)
  rw [← some_e h] at hfin
  exact hfin 9 _ _ _ dX8_apart_9 hP hD hS
theorem mc_X8_at_X8 : ∀ w ∈ wsX80, w ∈ wsX8_at := by decide +kernel
theorem mf_X8_at_32 : Cond.fieldLink RX8 32 "LensbenchModel" "pieces" "I" ∈ wsX8_at := by decide +kernel
theorem mf_X8_at_9 : Cond.fieldLink RX8 9 "LensbenchModel" "place" "[I" ∈ wsX8_at := by decide +kernel
abbrev rm_X8_at : Room := { frames := 0, cells := 0, slots := 0, locals := 0 }
set_option maxHeartbeats 4000000 in
set_option maxRecDepth 100000 in
theorem m_X8_at (l : Launch) (D : va_G) (cI cD cB : ClassId) (a_t : Nat) (a_t_place : Nat) (a_t_half : Nat) (a_t_power : Nat) (a_t_glass : Nat) (p1 : Int32) (c_t_thrown : Int32) (c_t_pieces : Int32) (c_t_thing : Int32) (c_t_screen : Int32) (c_t_tall : Int32) (c_t_refused : Int32) (c_t_height : UInt64) (c_t_slope : UInt64) (c_t_cut : Int32) (c_t_sum : Int64) (c_t_place : Nat → Int32) (R : Int32) (h : f_X8_at p1 c_t_pieces c_t_place = some R) : Ci l yX8_at wsX8_at rm_X8_at D (TT cI cD cB) [.ref a_t, .int p1] [(a_t, .inr (10, [.int c_t_thrown, .int c_t_pieces, .ref a_t_place, .ref a_t_half, .ref a_t_power, .ref a_t_glass, .int c_t_thing, .int c_t_screen, .int c_t_tall, .int c_t_refused, .double c_t_height, .double c_t_slope, .int c_t_cut, .long c_t_sum])), (a_t_place, .inl (cI, 8, .inl c_t_place))] [(a_t, .inr (10, [.int c_t_thrown, .int c_t_pieces, .ref a_t_place, .ref a_t_half, .ref a_t_power, .ref a_t_glass, .int c_t_thing, .int c_t_screen, .int c_t_tall, .int c_t_refused, .double c_t_height, .double c_t_slope, .int c_t_cut, .long c_t_sum])), (a_t_place, .inl (cI, 8, .inl c_t_place))] R 0 0 := by
  unfold f_X8_at at h
  refine st_i (cc := cX8_at) (maxL := 3) (by decide) rfl (Nat.le_of_ble_eq_true rfl) (fun p e s m av below meth c A Q ls hx hb hml hts hown hA hK hNM hZ hP hD hS hl hfin => ?_)
  have hown : s.vm.findClass RX8 = some m.cls := hown
  have hl : lv_has ls 3 [(0, .ref a_t), (1, .int p1)] := hl
  refine lv_iconst (v := (0 : Int32)) hx hb dX8_at_0 (by decide) ?_
  refine lv_istore_n (lv' := [(2, .int (0 : Int32)), (0, .ref a_t), (1, .int p1)]) hx hb dX8_at_1 rfl hl (by decide) rfl (fun ls hl => ?_)
  have LOOP1 : ∀ (n1 : Nat) (s1 : Int32) (H : Heap) (locs : List Loc) (ls : Array Slot), va_P D vwCl [(a_t, .inr (10, [.int c_t_thrown, .int c_t_pieces, .ref a_t_place, .ref a_t_half, .ref a_t_power, .ref a_t_glass, .int c_t_thing, .int c_t_screen, .int c_t_tall, .int c_t_refused, .double c_t_height, .double c_t_slope, .int c_t_cut, .long c_t_sum])), (a_t_place, .inl (cI, 8, .inl c_t_place))] H → va_D A [(a_t, .inr (10, [.int c_t_thrown, .int c_t_pieces, .ref a_t_place, .ref a_t_half, .ref a_t_power, .ref a_t_glass, .int c_t_thing, .int c_t_screen, .int c_t_tall, .int c_t_refused, .double c_t_height, .double c_t_slope, .int c_t_cut, .long c_t_sum])), (a_t_place, .inl (cI, 8, .inl c_t_place))] → va_S A s.heap H locs → lv_has ls 3 [(2, .int s1), (0, .ref a_t), (1, .int p1)] → lp (f_X8_at_b1 p1 c_t_pieces c_t_place) n1 s1 = some R → W p l e rm_X8_at s m av below meth c H locs 0 0 Q (F0 m 2 ls []) := by
    intro n1
    induction n1 with
    | zero => intro s1 H locs ls hP hD hS hl h; exact lp_0 h
    | succ n1 ih1 =>
      intro s1 H locs ls hP hD hS hl h
      replace h := lp_s h
      unfold f_X8_at_b1 at h
      refine lv_iload_n hx hb dX8_at_2 rfl (lv_at hl 0 rfl) ?_
      refine lv_aload_n hx hb dX8_at_3 rfl (lv_at hl 1 rfl) ?_
      refine va_get (D := D) (ci := 10) (v := .int c_t_pieces) (C := RX8) (T := TX8) (N := 14) hx hb hts mc_X8_at_X8 hown hK hP 0 rfl rfl 1 (by decide) (hts _ mf_X8_at_32) (fun _ h9 => h9) rfl dX8_at_4 ?_
      refine lv_icmp_ge (tgt := 28) hx hb dX8_at_7 (by decide) (fun q1 => ?_) (fun q1 => ?_)
      · replace h := ifp h q1
        refine lv_iconst (v := (-1 : Int32)) hx hb dX8_at_28 (by decide) ?_
        rw [← some_e h] at hfin
        exact hfin 29 _ _ _ dX8_at_29 rfl hP hD hS
      · replace h := ifn h q1
        refine lv_aload_n hx hb dX8_at_10 rfl (lv_at hl 1 rfl) ?_
        refine va_get (D := D) (ci := 10) (v := .ref a_t_place) (C := RX8) (T := TX8) (N := 14) hx hb hts mc_X8_at_X8 hown hK hP 0 rfl rfl 2 (by decide) (hts _ mf_X8_at_9) (fun _ h9 => h9) rfl dX8_at_11 ?_
        refine lv_iload_n hx hb dX8_at_14 rfl (lv_at hl 0 rfl) ?_
        obtain ⟨g2, h⟩ := gd_e h
        refine va_iald hx hb hK hP 1 0 rfl rfl (vin_in g2) dX8_at_15 ?_
        refine lv_iload_n hx hb dX8_at_16 rfl (lv_at hl 2 rfl) ?_
        refine lv_icmp_ne (tgt := 22) hx hb dX8_at_17 (by decide) (fun q3 => ?_) (fun q3 => ?_)
        · replace h := ifn h q3
          refine lv_iinc (v := (s1 + (1 : Int32))) (lv' := [(2, .int (s1 + (1 : Int32))), (0, .ref a_t), (1, .int p1)]) hx hb dX8_at_22 hl (k := 0) rfl rfl (by decide) rfl (fun ls hl => ?_)
          refine lv_goto (tgt := 2) hx hb dX8_at_25 (by decide) ?_
          exact ih1 (s1 + (1 : Int32)) _ _ _ hP hD hS (lv_sub hl [0, 1, 2] rfl) h
        · replace h := ifp h q3
          refine lv_iload_n hx hb dX8_at_20 rfl (lv_at hl 0 rfl) ?_
          rw [← some_e h] at hfin
          exact hfin 21 _ _ _ dX8_at_21 rfl hP hD hS
  exact LOOP1 1000 (0 : Int32) _ _ _ hP hD hS hl h
abbrev rm_X8_is : Room := { frames := 0, cells := 0, slots := 0, locals := 0 }
set_option maxHeartbeats 4000000 in
set_option maxRecDepth 100000 in
theorem m_X8_is (l : Launch) (D : va_G) (cI cD cB : ClassId) (p1 : Int32) (p2 : Int32) (p3 : Int32) (R : Int32) (h : f_X8_is p1 p2 p3 = some R) : Ci l yX8_is wsX8_is rm_X8_is D (TT cI cD cB) [.int p1, .int p2, .int p3] [] [] R 0 0 := by
  unfold f_X8_is at h
  refine st_i (cc := cX8_is) (maxL := 3) (by decide) rfl (Nat.le_of_ble_eq_true rfl) (fun p e s m av below meth c A Q ls hx hb hml hts hown hA hK hNM hZ hP hD hS hl hfin => ?_)
  have hown : s.vm.findClass RX8 = some m.cls := hown
  have hl : lv_has ls 3 [(0, .int p1), (1, .int p2), (2, .int p3)] := hl
  refine lv_iload_n hx hb dX8_is_0 rfl (lv_at hl 0 rfl) ?_
  refine lv_iload_n hx hb dX8_is_1 rfl (lv_at hl 1 rfl) ?_
  refine lv_icmp_lt (tgt := 14) hx hb dX8_is_2 (by decide) (fun q1 => ?_) (fun q1 => ?_)
  · replace h := ifp h q1
    refine lv_iconst (v := (0 : Int32)) hx hb dX8_is_14 (by decide) ?_
    rw [← some_e h] at hfin
    exact hfin 15 _ _ _ dX8_is_15 rfl hP hD hS
  · replace h := ifn h q1
    refine lv_iload_n hx hb dX8_is_5 rfl (lv_at hl 0 rfl) ?_
    refine lv_iload_n hx hb dX8_is_6 rfl (lv_at hl 2 rfl) ?_
    refine lv_icmp_gt (tgt := 14) hx hb dX8_is_7 (by decide) (fun q2 => ?_) (fun q2 => ?_)
    · replace h := ifp h q2
      refine lv_iconst (v := (0 : Int32)) hx hb dX8_is_14 (by decide) ?_
      rw [← some_e h] at hfin
      exact hfin 15 _ _ _ dX8_is_15 rfl hP hD hS
    · replace h := ifn h q2
      refine lv_iconst (v := (1 : Int32)) hx hb dX8_is_10 (by decide) ?_
      refine lv_goto (tgt := 15) hx hb dX8_is_11 (by decide) ?_
      rw [← some_e h] at hfin
      exact hfin 15 _ _ _ dX8_is_15 rfl hP hD hS
theorem mc_X8_isPiece_X8 : ∀ w ∈ wsX80, w ∈ wsX8_isPiece := by decide +kernel
theorem mf_X8_isPiece_32 : Cond.fieldLink RX8 32 "LensbenchModel" "pieces" "I" ∈ wsX8_isPiece := by decide +kernel
abbrev rm_X8_isPiece : Room := { frames := 1, cells := 0, slots := 0, locals := 22 }
set_option maxHeartbeats 4000000 in
set_option maxRecDepth 100000 in
theorem m_X8_isPiece (l : Launch) (D : va_G) (cI cD cB : ClassId) (a_t : Nat) (a_t_place : Nat) (a_t_half : Nat) (a_t_power : Nat) (a_t_glass : Nat) (p1 : Int32) (c_t_thrown : Int32) (c_t_pieces : Int32) (c_t_thing : Int32) (c_t_screen : Int32) (c_t_tall : Int32) (c_t_refused : Int32) (c_t_height : UInt64) (c_t_slope : UInt64) (c_t_cut : Int32) (c_t_sum : Int64) (R : Int32) (h : f_X8_isPiece p1 c_t_pieces = some R) : Ci l yX8_isPiece wsX8_isPiece rm_X8_isPiece D (TT cI cD cB) [.ref a_t, .int p1] [(a_t, .inr (10, [.int c_t_thrown, .int c_t_pieces, .ref a_t_place, .ref a_t_half, .ref a_t_power, .ref a_t_glass, .int c_t_thing, .int c_t_screen, .int c_t_tall, .int c_t_refused, .double c_t_height, .double c_t_slope, .int c_t_cut, .long c_t_sum]))] [(a_t, .inr (10, [.int c_t_thrown, .int c_t_pieces, .ref a_t_place, .ref a_t_half, .ref a_t_power, .ref a_t_glass, .int c_t_thing, .int c_t_screen, .int c_t_tall, .int c_t_refused, .double c_t_height, .double c_t_slope, .int c_t_cut, .long c_t_sum]))] R 0 0 := by
  unfold f_X8_isPiece at h
  refine st_i (cc := cX8_isPiece) (maxL := 2) (by decide) rfl (Nat.le_of_ble_eq_true rfl) (fun p e s m av below meth c A Q ls hx hb hml hts hown hA hK hNM hZ hP hD hS hl hfin => ?_)
  have hown : s.vm.findClass RX8 = some m.cls := hown
  have hl : lv_has ls 2 [(0, .ref a_t), (1, .int p1)] := hl
  refine lv_iload_n hx hb dX8_isPiece_0 rfl (lv_at hl 1 rfl) ?_
  refine lv_iconst (v := (0 : Int32)) hx hb dX8_isPiece_1 (by decide) ?_
  refine lv_aload_n hx hb dX8_isPiece_2 rfl (lv_at hl 0 rfl) ?_
  refine va_get (D := D) (ci := 10) (v := .int c_t_pieces) (C := RX8) (T := TX8) (N := 14) hx hb hts mc_X8_isPiece_X8 hown hK hP 0 rfl rfl 1 (by decide) (hts _ mf_X8_isPiece_32) (fun _ h9 => h9) rfl dX8_isPiece_3 ?_
  refine lv_iconst (v := (1 : Int32)) hx hb dX8_isPiece_6 (by decide) ?_
  refine lv_isub hx hb dX8_isPiece_7 ?_
  obtain ⟨o1, e2, h⟩ := bd_e h
  refine co_i (W0 := []) (wr := [(a_t, .inr (10, [.int c_t_thrown, .int c_t_pieces, .ref a_t_place, .ref a_t_half, .ref a_t_power, .ref a_t_glass, .int c_t_thing, .int c_t_screen, .int c_t_tall, .int c_t_refused, .double c_t_height, .double c_t_slope, .int c_t_cut, .long c_t_sum]))]) (W1 := []) (ws2 := [(a_t, .inr (10, [.int c_t_thrown, .int c_t_pieces, .ref a_t_place, .ref a_t_half, .ref a_t_power, .ref a_t_glass, .int c_t_thing, .int c_t_screen, .int c_t_tall, .int c_t_refused, .double c_t_height, .double c_t_slope, .int c_t_cut, .long c_t_sum]))]) (va_runS (As := [.int p1, .int (0 : Int32), .int (c_t_pieces - (1 : Int32))]) (rest := []) ⟨hx, hb, hml, hown, hts⟩ (m_X8_is l D cI cD cB p1 (0 : Int32) (c_t_pieces - (1 : Int32)) o1 e2 _) (va_cwS 3 hts gX8_isPiece_X8_is rfl rfl rfl (by decide +kernel) ⟨Nat.le_of_ble_eq_true rfl, Nat.le_of_ble_eq_true rfl⟩) (my_preS [] hP hK hNM hZ hD hS hA rfl rfl) rfl rfl hl.1 rfl (lv_room (Nat.le_of_ble_eq_true rfl)) dX8_isPiece_8 ⟨Nat.zero_le _, Nat.zero_le _⟩) hP hD hS hA [] [0] [0] rfl rfl rfl rfl rfl (by decide) (fun H locs hP hD hS => ?_)
  obtain ⟨gz, h⟩ := gd_e h
  rw [← some_e h] at hfin
  exact hfin 11 _ _ _ dX8_isPiece_11 (isb_n gz) hP hD hS
