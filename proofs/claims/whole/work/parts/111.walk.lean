theorem mc_X8_go_X8 : ∀ w ∈ wsX80, w ∈ wsX8_go := by decide +kernel
theorem mf_X8_go_13 : Cond.fieldLink RX8 13 "LensbenchModel" "half" "[I" ∈ wsX8_go := by decide +kernel
theorem mf_X8_go_16 : Cond.fieldLink RX8 16 "LensbenchModel" "power" "[I" ∈ wsX8_go := by decide +kernel
theorem mf_X8_go_22 : Cond.fieldLink RX8 22 "LensbenchModel" "screen" "I" ∈ wsX8_go := by decide +kernel
theorem mf_X8_go_60 : Cond.fieldLink RX8 60 "LensbenchModel" "thing" "I" ∈ wsX8_go := by decide +kernel
theorem mf_X8_go_66 : Cond.fieldLink RX8 66 "LensbenchModel" "height" "D" ∈ wsX8_go := by decide +kernel
theorem mf_X8_go_70 : Cond.fieldLink RX8 70 "LensbenchModel" "slope" "D" ∈ wsX8_go := by decide +kernel
theorem mf_X8_go_73 : Cond.fieldLink RX8 73 "LensbenchModel" "cut" "I" ∈ wsX8_go := by decide +kernel
theorem mf_X8_go_9 : Cond.fieldLink RX8 9 "LensbenchModel" "place" "[I" ∈ wsX8_go := by decide +kernel
theorem mmc_X8_go_79 : Cond.code yJ9_abs_294c1 cJ9_abs_294c1 2 (some .double) ∈ wsX8_go := by decide +kernel
theorem mmi_X8_go_79 : Cond.initialized RJ9 ∈ wsX8_go := by decide +kernel
theorem mml_X8_go_79 : Cond.methodLink RX8 79 yJ9_abs_294c1 ∈ wsX8_go := by decide +kernel
theorem mms_X8_go_79 : Cond.static yJ9_abs_294c1 ∈ wsX8_go := by decide +kernel
abbrev rm_X8_go : Room := { frames := 1, cells := 0, slots := 0, locals := 26 }
set_option maxHeartbeats 4000000 in
set_option maxRecDepth 100000 in
theorem m_X8_go (l : Launch) (D : va_G) (cI cD cB : ClassId) (a_t : Nat) (a_t_place : Nat) (a_t_half : Nat) (a_t_power : Nat) (a_t_glass : Nat) (p1 : UInt64) (p2 : UInt64) (p3 : Int32) (p4 : Int32) (c_t_thrown : Int32) (c_t_pieces : Int32) (c_t_thing : Int32) (c_t_screen : Int32) (c_t_tall : Int32) (c_t_refused : Int32) (c_t_height : UInt64) (c_t_slope : UInt64) (c_t_cut : Int32) (c_t_sum : Int64) (c_t_place : Nat → Int32) (c_t_half : Nat → Int32) (c_t_power : Nat → Int32) (c_t_glass : Nat → Int32) (R : UInt64 × UInt64 × Int32) (h : f_X8_go p1 p2 p3 p4 c_t_pieces c_t_thing c_t_screen c_t_place c_t_half c_t_power c_t_glass = some R) : Cv l yX8_go wsX8_go rm_X8_go D (TT cI cD cB) [.ref a_t, .double p1, .double p2, .int p3, .int p4] [(a_t, .inr (10, [.int c_t_thrown, .int c_t_pieces, .ref a_t_place, .ref a_t_half, .ref a_t_power, .ref a_t_glass, .int c_t_thing, .int c_t_screen, .int c_t_tall, .int c_t_refused, .double c_t_height, .double c_t_slope, .int c_t_cut, .long c_t_sum])), (a_t_place, .inl (cI, 8, .inl c_t_place)), (a_t_half, .inl (cI, 8, .inl c_t_half)), (a_t_power, .inl (cI, 8, .inl c_t_power)), (a_t_glass, .inl (cI, 8, .inl c_t_glass))] [(a_t, .inr (10, [.int c_t_thrown, .int c_t_pieces, .ref a_t_place, .ref a_t_half, .ref a_t_power, .ref a_t_glass, .int c_t_thing, .int c_t_screen, .int c_t_tall, .int c_t_refused, .double R.1, .double R.2.1, .int R.2.2, .long c_t_sum])), (a_t_place, .inl (cI, 8, .inl c_t_place)), (a_t_half, .inl (cI, 8, .inl c_t_half)), (a_t_power, .inl (cI, 8, .inl c_t_power)), (a_t_glass, .inl (cI, 8, .inl c_t_glass))] 0 0 := by
  unfold f_X8_go at h
  refine st_v (cc := cX8_go) (maxL := 10) (by decide) rfl (Nat.le_of_ble_eq_true rfl) (fun p e s m av below meth c A Q ls hx hb hml hts hown hA hK hNM hZ hP hD hS hl hfin => ?_)
  have hown : s.vm.findClass RX8 = some m.cls := hown
  have hl : lv_has ls 10 [(0, .ref a_t), (1, .double p1), (3, .double p2), (5, .int p3), (6, .int p4)] := hl
  refine lv_aload_n hx hb dX8_go_0 rfl (lv_at hl 0 rfl) ?_
  refine lv_dload_n hx hb dX8_go_1 rfl (lv_at hl 1 rfl) ?_
  refine va_put (D := D) (ci := 10) (v := .double p1) (ty := .double) (C := RX8) (T := TX8) (N := 14) hx hb hts mc_X8_go_X8 tyX8 tyX8_ok nmX8 hown hK hP hD hS 0 rfl rfl 10 (by decide) (hts _ mf_X8_go_66) (fun _ h9 => h9) rfl (tyX8_ok 10 (by decide)) rfl rfl (Nat.le_of_ble_eq_true rfl) dX8_go_2 (fun H locs hP hD hS => ?_)
  have hP : va_P D vwCl [(a_t, .inr (10, [.int c_t_thrown, .int c_t_pieces, .ref a_t_place, .ref a_t_half, .ref a_t_power, .ref a_t_glass, .int c_t_thing, .int c_t_screen, .int c_t_tall, .int c_t_refused, .double p1, .double c_t_slope, .int c_t_cut, .long c_t_sum])), (a_t_place, .inl (cI, 8, .inl c_t_place)), (a_t_half, .inl (cI, 8, .inl c_t_half)), (a_t_power, .inl (cI, 8, .inl c_t_power)), (a_t_glass, .inl (cI, 8, .inl c_t_glass))] H := hP
  have hD : va_D A [(a_t, .inr (10, [.int c_t_thrown, .int c_t_pieces, .ref a_t_place, .ref a_t_half, .ref a_t_power, .ref a_t_glass, .int c_t_thing, .int c_t_screen, .int c_t_tall, .int c_t_refused, .double p1, .double c_t_slope, .int c_t_cut, .long c_t_sum])), (a_t_place, .inl (cI, 8, .inl c_t_place)), (a_t_half, .inl (cI, 8, .inl c_t_half)), (a_t_power, .inl (cI, 8, .inl c_t_power)), (a_t_glass, .inl (cI, 8, .inl c_t_glass))] := hD
  refine lv_aload_n hx hb dX8_go_5 rfl (lv_at hl 0 rfl) ?_
  refine lv_dload_n hx hb dX8_go_6 rfl (lv_at hl 2 rfl) ?_
  refine va_put (D := D) (ci := 10) (v := .double p2) (ty := .double) (C := RX8) (T := TX8) (N := 14) hx hb hts mc_X8_go_X8 tyX8 tyX8_ok nmX8 hown hK hP hD hS 0 rfl rfl 11 (by decide) (hts _ mf_X8_go_70) (fun _ h9 => h9) rfl (tyX8_ok 11 (by decide)) rfl rfl (Nat.le_of_ble_eq_true rfl) dX8_go_7 (fun H locs hP hD hS => ?_)
  have hP : va_P D vwCl [(a_t, .inr (10, [.int c_t_thrown, .int c_t_pieces, .ref a_t_place, .ref a_t_half, .ref a_t_power, .ref a_t_glass, .int c_t_thing, .int c_t_screen, .int c_t_tall, .int c_t_refused, .double p1, .double p2, .int c_t_cut, .long c_t_sum])), (a_t_place, .inl (cI, 8, .inl c_t_place)), (a_t_half, .inl (cI, 8, .inl c_t_half)), (a_t_power, .inl (cI, 8, .inl c_t_power)), (a_t_glass, .inl (cI, 8, .inl c_t_glass))] H := hP
  have hD : va_D A [(a_t, .inr (10, [.int c_t_thrown, .int c_t_pieces, .ref a_t_place, .ref a_t_half, .ref a_t_power, .ref a_t_glass, .int c_t_thing, .int c_t_screen, .int c_t_tall, .int c_t_refused, .double p1, .double p2, .int c_t_cut, .long c_t_sum])), (a_t_place, .inl (cI, 8, .inl c_t_place)), (a_t_half, .inl (cI, 8, .inl c_t_half)), (a_t_power, .inl (cI, 8, .inl c_t_power)), (a_t_glass, .inl (cI, 8, .inl c_t_glass))] := hD
  refine lv_aload_n hx hb dX8_go_10 rfl (lv_at hl 0 rfl) ?_
  refine lv_iconst (v := (-1 : Int32)) hx hb dX8_go_11 (by decide) ?_
  refine va_put (D := D) (ci := 10) (v := .int (-1 : Int32)) (ty := .int) (C := RX8) (T := TX8) (N := 14) hx hb hts mc_X8_go_X8 tyX8 tyX8_ok nmX8 hown hK hP hD hS 0 rfl rfl 12 (by decide) (hts _ mf_X8_go_73) (fun _ h9 => h9) rfl (tyX8_ok 12 (by decide)) rfl rfl (Nat.le_of_ble_eq_true rfl) dX8_go_12 (fun H locs hP hD hS => ?_)
  have hP : va_P D vwCl [(a_t, .inr (10, [.int c_t_thrown, .int c_t_pieces, .ref a_t_place, .ref a_t_half, .ref a_t_power, .ref a_t_glass, .int c_t_thing, .int c_t_screen, .int c_t_tall, .int c_t_refused, .double p1, .double p2, .int (-1 : Int32), .long c_t_sum])), (a_t_place, .inl (cI, 8, .inl c_t_place)), (a_t_half, .inl (cI, 8, .inl c_t_half)), (a_t_power, .inl (cI, 8, .inl c_t_power)), (a_t_glass, .inl (cI, 8, .inl c_t_glass))] H := hP
  have hD : va_D A [(a_t, .inr (10, [.int c_t_thrown, .int c_t_pieces, .ref a_t_place, .ref a_t_half, .ref a_t_power, .ref a_t_glass, .int c_t_thing, .int c_t_screen, .int c_t_tall, .int c_t_refused, .double p1, .double p2, .int (-1 : Int32), .long c_t_sum])), (a_t_place, .inl (cI, 8, .inl c_t_place)), (a_t_half, .inl (cI, 8, .inl c_t_half)), (a_t_power, .inl (cI, 8, .inl c_t_power)), (a_t_glass, .inl (cI, 8, .inl c_t_glass))] := hD
  refine lv_aload_n hx hb dX8_go_15 rfl (lv_at hl 0 rfl) ?_
  refine va_get (D := D) (ci := 10) (v := .int c_t_thing) (C := RX8) (T := TX8) (N := 14) hx hb hts mc_X8_go_X8 hown hK hP 0 rfl rfl 6 (by decide) (hts _ mf_X8_go_60) (fun _ h9 => h9) rfl dX8_go_16 ?_
  refine lv_istore (lv' := [(7, .int c_t_thing), (0, .ref a_t), (1, .double p1), (3, .double p2), (5, .int p3), (6, .int p4)]) hx hb dX8_go_19 hl (by decide) rfl (fun ls hl => ?_)
  refine lv_aload_n hx hb dX8_go_21 rfl (lv_at hl 1 rfl) ?_
  refine lv_iload hx hb dX8_go_22 (lv_at hl 0 rfl) ?_
  obtain ⟨o1, e2, h⟩ := bd_e h
  refine co_i (W0 := [(a_t, .inr (10, [.int c_t_thrown, .int c_t_pieces, .ref a_t_place, .ref a_t_half, .ref a_t_power, .ref a_t_glass, .int c_t_thing, .int c_t_screen, .int c_t_tall, .int c_t_refused, .double p1, .double p2, .int (-1 : Int32), .long c_t_sum])), (a_t_place, .inl (cI, 8, .inl c_t_place))]) (wr := [(a_t_half, .inl (cI, 8, .inl c_t_half)), (a_t_power, .inl (cI, 8, .inl c_t_power)), (a_t_glass, .inl (cI, 8, .inl c_t_glass))]) (W1 := [(a_t, .inr (10, [.int c_t_thrown, .int c_t_pieces, .ref a_t_place, .ref a_t_half, .ref a_t_power, .ref a_t_glass, .int c_t_thing, .int c_t_screen, .int c_t_tall, .int c_t_refused, .double p1, .double p2, .int (-1 : Int32), .long c_t_sum])), (a_t_place, .inl (cI, 8, .inl c_t_place))]) (ws2 := [(a_t, .inr (10, [.int c_t_thrown, .int c_t_pieces, .ref a_t_place, .ref a_t_half, .ref a_t_power, .ref a_t_glass, .int c_t_thing, .int c_t_screen, .int c_t_tall, .int c_t_refused, .double p1, .double p2, .int (-1 : Int32), .long c_t_sum])), (a_t_place, .inl (cI, 8, .inl c_t_place)), (a_t_half, .inl (cI, 8, .inl c_t_half)), (a_t_power, .inl (cI, 8, .inl c_t_power)), (a_t_glass, .inl (cI, 8, .inl c_t_glass))]) (va_runV (C := RX8) (As := [.int c_t_thing]) (rest := []) ⟨hx, hb, hml, hown, hts⟩ (m_X8_next l D cI cD cB a_t a_t_place a_t_half a_t_power a_t_glass c_t_thing c_t_thrown c_t_pieces c_t_thing c_t_screen c_t_tall c_t_refused p1 p2 (-1 : Int32) c_t_sum c_t_place o1 e2 _) (cwV 1 hts gX8_go_X8_next rfl rfl rfl (by decide +kernel) ⟨Nat.le_of_ble_eq_true rfl, Nat.le_of_ble_eq_true rfl⟩) (my_preV (q := (RX8, TX8, 14)) (ci := 10) (q0 := 0) [0, 1] hP hK hNM hZ hD hS hA rfl rfl rfl rfl) rfl rfl hl.1 rfl (lv_room (Nat.le_of_ble_eq_true rfl)) dX8_go_24 ⟨Nat.zero_le _, Nat.zero_le _⟩) hP hD hS hA [0, 1] [2, 3, 4] [3, 4, 0, 1, 2] rfl rfl rfl rfl rfl (by decide) (fun H locs hP hD hS => ?_)
  refine lv_istore (lv' := [(8, .int o1), (7, .int c_t_thing), (0, .ref a_t), (1, .double p1), (3, .double p2), (5, .int p3), (6, .int p4)]) hx hb dX8_go_27 hl (by decide) rfl (fun ls hl => ?_)
  have LOOP1 : ∀ (n1 : Nat) (s1 : Int32 × Int32 × UInt64 × UInt64) (H : Heap) (locs : List Loc) (ls : Array Slot), va_P D vwCl [(a_t, .inr (10, [.int c_t_thrown, .int c_t_pieces, .ref a_t_place, .ref a_t_half, .ref a_t_power, .ref a_t_glass, .int c_t_thing, .int c_t_screen, .int c_t_tall, .int c_t_refused, .double s1.2.2.1, .double s1.2.2.2, .int (-1 : Int32), .long c_t_sum])), (a_t_place, .inl (cI, 8, .inl c_t_place)), (a_t_half, .inl (cI, 8, .inl c_t_half)), (a_t_power, .inl (cI, 8, .inl c_t_power)), (a_t_glass, .inl (cI, 8, .inl c_t_glass))] H → va_D A [(a_t, .inr (10, [.int c_t_thrown, .int c_t_pieces, .ref a_t_place, .ref a_t_half, .ref a_t_power, .ref a_t_glass, .int c_t_thing, .int c_t_screen, .int c_t_tall, .int c_t_refused, .double s1.2.2.1, .double s1.2.2.2, .int (-1 : Int32), .long c_t_sum])), (a_t_place, .inl (cI, 8, .inl c_t_place)), (a_t_half, .inl (cI, 8, .inl c_t_half)), (a_t_power, .inl (cI, 8, .inl c_t_power)), (a_t_glass, .inl (cI, 8, .inl c_t_glass))] → va_S A s.heap H locs → lv_has ls 10 [(8, .int s1.1), (7, .int s1.2.1), (0, .ref a_t), (1, .double p1), (3, .double p2), (5, .int p3), (6, .int p4)] → lp (f_X8_go_b1 p3 p4 c_t_pieces c_t_screen c_t_place c_t_half c_t_power c_t_glass) n1 s1 = some R → W p l e rm_X8_go s m av below meth c H locs 0 0 Q (F0 m 29 ls []) := by
    intro n1
    induction n1 with
    | zero => intro s1 H locs ls hP hD hS hl h; exact lp_0 h
    | succ n1 ih1 =>
      intro s1 H locs ls hP hD hS hl h
      replace h := lp_s h
      unfold f_X8_go_b1 at h
      refine lv_iload hx hb dX8_go_29 (lv_at hl 0 rfl) ?_
      refine lv_iconst (v := (-1 : Int32)) hx hb dX8_go_31 (by decide) ?_
      refine lv_icmp_eq (tgt := 157) hx hb dX8_go_32 (by decide) (fun q3 => ?_) (fun q3 => ?_)
      · replace h := ifp h q3
        refine lv_aload_n hx hb dX8_go_157 rfl (lv_at hl 2 rfl) ?_
        refine va_get (D := D) (ci := 10) (v := .int c_t_screen) (C := RX8) (T := TX8) (N := 14) hx hb hts mc_X8_go_X8 hown hK hP 0 rfl rfl 7 (by decide) (hts _ mf_X8_go_22) (fun _ h9 => h9) rfl dX8_go_158 ?_
        refine lv_iload hx hb dX8_go_161 (lv_at hl 1 rfl) ?_
        refine lv_isub hx hb dX8_go_163 ?_
        refine lv_istore (lv' := [(8, .int (c_t_screen - s1.2.1)), (7, .int s1.2.1), (0, .ref a_t), (1, .double p1), (3, .double p2), (5, .int p3), (6, .int p4)]) hx hb dX8_go_164 hl (by decide) rfl (fun ls hl => ?_)
        refine lv_aload_n hx hb dX8_go_166 rfl (lv_at hl 2 rfl) ?_
        refine lv_aload_n hx hb dX8_go_167 rfl (lv_at hl 2 rfl) ?_
        refine va_get (D := D) (ci := 10) (v := .double s1.2.2.1) (C := RX8) (T := TX8) (N := 14) hx hb hts mc_X8_go_X8 hown hK hP 0 rfl rfl 10 (by decide) (hts _ mf_X8_go_66) (fun _ h9 => h9) rfl dX8_go_168 ?_
        refine lv_aload_n hx hb dX8_go_171 rfl (lv_at hl 2 rfl) ?_
        refine va_get (D := D) (ci := 10) (v := .double s1.2.2.2) (C := RX8) (T := TX8) (N := 14) hx hb hts mc_X8_go_X8 hown hK hP 0 rfl rfl 11 (by decide) (hts _ mf_X8_go_70) (fun _ h9 => h9) rfl dX8_go_172 ?_
        refine lv_iload hx hb dX8_go_175 (lv_at hl 0 rfl) ?_
        refine lv_i2d hx hb dX8_go_177 ?_
        obtain ⟨g4, h⟩ := gd_e h
        refine lv_dmul hx hb dX8_go_178 (n64_n g4) ?_
        obtain ⟨g5, h⟩ := gd_e h
        refine lv_dadd hx hb dX8_go_179 (n64_n g5) ?_
        refine va_put (D := D) (ci := 10) (v := .double (FP.dadd s1.2.2.1 (FP.dmul s1.2.2.2 (FP.i2d (c_t_screen - s1.2.1))))) (ty := .double) (C := RX8) (T := TX8) (N := 14) hx hb hts mc_X8_go_X8 tyX8 tyX8_ok nmX8 hown hK hP hD hS 0 rfl rfl 10 (by decide) (hts _ mf_X8_go_66) (fun _ h9 => h9) rfl (tyX8_ok 10 (by decide)) rfl rfl (Nat.le_of_ble_eq_true rfl) dX8_go_180 (fun H locs hP hD hS => ?_)
        have hP : va_P D vwCl [(a_t, .inr (10, [.int c_t_thrown, .int c_t_pieces, .ref a_t_place, .ref a_t_half, .ref a_t_power, .ref a_t_glass, .int c_t_thing, .int c_t_screen, .int c_t_tall, .int c_t_refused, .double (FP.dadd s1.2.2.1 (FP.dmul s1.2.2.2 (FP.i2d (c_t_screen - s1.2.1)))), .double s1.2.2.2, .int (-1 : Int32), .long c_t_sum])), (a_t_place, .inl (cI, 8, .inl c_t_place)), (a_t_half, .inl (cI, 8, .inl c_t_half)), (a_t_power, .inl (cI, 8, .inl c_t_power)), (a_t_glass, .inl (cI, 8, .inl c_t_glass))] H := hP
        have hD : va_D A [(a_t, .inr (10, [.int c_t_thrown, .int c_t_pieces, .ref a_t_place, .ref a_t_half, .ref a_t_power, .ref a_t_glass, .int c_t_thing, .int c_t_screen, .int c_t_tall, .int c_t_refused, .double (FP.dadd s1.2.2.1 (FP.dmul s1.2.2.2 (FP.i2d (c_t_screen - s1.2.1)))), .double s1.2.2.2, .int (-1 : Int32), .long c_t_sum])), (a_t_place, .inl (cI, 8, .inl c_t_place)), (a_t_half, .inl (cI, 8, .inl c_t_half)), (a_t_power, .inl (cI, 8, .inl c_t_power)), (a_t_glass, .inl (cI, 8, .inl c_t_glass))] := hD
        rw [← some_e h] at hfin
        exact hfin 183 _ _ _ dX8_go_183 hP hD hS
      · replace h := ifn h q3
        refine lv_iload hx hb dX8_go_35 (lv_at hl 0 rfl) ?_
        refine lv_iload hx hb dX8_go_37 (lv_at hl 6 rfl) ?_
        refine lv_icmp_ne (tgt := 45) hx hb dX8_go_39 (by decide) (fun q6 => ?_) (fun q6 => ?_)
        · replace h := ifn h q6
          refine lv_aload_n hx hb dX8_go_45 rfl (lv_at hl 2 rfl) ?_
          refine va_get (D := D) (ci := 10) (v := .ref a_t_place) (C := RX8) (T := TX8) (N := 14) hx hb hts mc_X8_go_X8 hown hK hP 0 rfl rfl 2 (by decide) (hts _ mf_X8_go_9) (fun _ h9 => h9) rfl dX8_go_46 ?_
          refine lv_iload hx hb dX8_go_49 (lv_at hl 0 rfl) ?_
          obtain ⟨g7, h⟩ := gd_e h
          refine va_iald hx hb hK hP 1 0 rfl rfl (vin_in g7) dX8_go_51 ?_
          refine lv_iload hx hb dX8_go_52 (lv_at hl 1 rfl) ?_
          refine lv_isub hx hb dX8_go_54 ?_
          refine lv_istore (lv' := [(9, .int ((c_t_place (s1.1).toNatClampNeg) - s1.2.1)), (8, .int s1.1), (7, .int s1.2.1), (0, .ref a_t), (1, .double p1), (3, .double p2), (5, .int p3), (6, .int p4)]) hx hb dX8_go_55 hl (by decide) rfl (fun ls hl => ?_)
          refine lv_aload_n hx hb dX8_go_57 rfl (lv_at hl 3 rfl) ?_
          refine lv_aload_n hx hb dX8_go_58 rfl (lv_at hl 3 rfl) ?_
          refine va_get (D := D) (ci := 10) (v := .double s1.2.2.1) (C := RX8) (T := TX8) (N := 14) hx hb hts mc_X8_go_X8 hown hK hP 0 rfl rfl 10 (by decide) (hts _ mf_X8_go_66) (fun _ h9 => h9) rfl dX8_go_59 ?_
          refine lv_aload_n hx hb dX8_go_62 rfl (lv_at hl 3 rfl) ?_
          refine va_get (D := D) (ci := 10) (v := .double s1.2.2.2) (C := RX8) (T := TX8) (N := 14) hx hb hts mc_X8_go_X8 hown hK hP 0 rfl rfl 11 (by decide) (hts _ mf_X8_go_70) (fun _ h9 => h9) rfl dX8_go_63 ?_
          refine lv_iload hx hb dX8_go_66 (lv_at hl 0 rfl) ?_
          refine lv_i2d hx hb dX8_go_68 ?_
          obtain ⟨g8, h⟩ := gd_e h
          refine lv_dmul hx hb dX8_go_69 (n64_n g8) ?_
          obtain ⟨g9, h⟩ := gd_e h
          refine lv_dadd hx hb dX8_go_70 (n64_n g9) ?_
          refine va_put (D := D) (ci := 10) (v := .double (FP.dadd s1.2.2.1 (FP.dmul s1.2.2.2 (FP.i2d ((c_t_place (s1.1).toNatClampNeg) - s1.2.1))))) (ty := .double) (C := RX8) (T := TX8) (N := 14) hx hb hts mc_X8_go_X8 tyX8 tyX8_ok nmX8 hown hK hP hD hS 0 rfl rfl 10 (by decide) (hts _ mf_X8_go_66) (fun _ h9 => h9) rfl (tyX8_ok 10 (by decide)) rfl rfl (Nat.le_of_ble_eq_true rfl) dX8_go_71 (fun H locs hP hD hS => ?_)
          have hP : va_P D vwCl [(a_t, .inr (10, [.int c_t_thrown, .int c_t_pieces, .ref a_t_place, .ref a_t_half, .ref a_t_power, .ref a_t_glass, .int c_t_thing, .int c_t_screen, .int c_t_tall, .int c_t_refused, .double (FP.dadd s1.2.2.1 (FP.dmul s1.2.2.2 (FP.i2d ((c_t_place (s1.1).toNatClampNeg) - s1.2.1)))), .double s1.2.2.2, .int (-1 : Int32), .long c_t_sum])), (a_t_place, .inl (cI, 8, .inl c_t_place)), (a_t_half, .inl (cI, 8, .inl c_t_half)), (a_t_power, .inl (cI, 8, .inl c_t_power)), (a_t_glass, .inl (cI, 8, .inl c_t_glass))] H := hP
          have hD : va_D A [(a_t, .inr (10, [.int c_t_thrown, .int c_t_pieces, .ref a_t_place, .ref a_t_half, .ref a_t_power, .ref a_t_glass, .int c_t_thing, .int c_t_screen, .int c_t_tall, .int c_t_refused, .double (FP.dadd s1.2.2.1 (FP.dmul s1.2.2.2 (FP.i2d ((c_t_place (s1.1).toNatClampNeg) - s1.2.1)))), .double s1.2.2.2, .int (-1 : Int32), .long c_t_sum])), (a_t_place, .inl (cI, 8, .inl c_t_place)), (a_t_half, .inl (cI, 8, .inl c_t_half)), (a_t_power, .inl (cI, 8, .inl c_t_power)), (a_t_glass, .inl (cI, 8, .inl c_t_glass))] := hD
          refine lv_aload_n hx hb dX8_go_74 rfl (lv_at hl 3 rfl) ?_
          refine va_get (D := D) (ci := 10) (v := .ref a_t_place) (C := RX8) (T := TX8) (N := 14) hx hb hts mc_X8_go_X8 hown hK hP 0 rfl rfl 2 (by decide) (hts _ mf_X8_go_9) (fun _ h9 => h9) rfl dX8_go_75 ?_
          refine lv_iload hx hb dX8_go_78 (lv_at hl 1 rfl) ?_
          obtain ⟨g10, h⟩ := gd_e h
          refine va_iald hx hb hK hP 1 0 rfl rfl (vin_in g10) dX8_go_80 ?_
          refine lv_istore (lv' := [(7, .int (c_t_place (s1.1).toNatClampNeg)), (9, .int ((c_t_place (s1.1).toNatClampNeg) - s1.2.1)), (8, .int s1.1), (0, .ref a_t), (1, .double p1), (3, .double p2), (5, .int p3), (6, .int p4)]) hx hb dX8_go_81 hl (by decide) rfl (fun ls hl => ?_)
          refine lv_aload_n hx hb dX8_go_83 rfl (lv_at hl 3 rfl) ?_
          refine va_get (D := D) (ci := 10) (v := .double (FP.dadd s1.2.2.1 (FP.dmul s1.2.2.2 (FP.i2d ((c_t_place (s1.1).toNatClampNeg) - s1.2.1))))) (C := RX8) (T := TX8) (N := 14) hx hb hts mc_X8_go_X8 hown hK hP 0 rfl rfl 10 (by decide) (hts _ mf_X8_go_66) (fun _ h9 => h9) rfl dX8_go_84 ?_
          obtain ⟨g25, h⟩ := gd_e h
          refine my_abs hx hb (hml.trans hl.1.symm) hown (hts _ mml_X8_go_79) (hts _ mms_X8_go_79) (hts _ mmi_X8_go_79) (hts _ mmc_X8_go_79) (Nat.le_of_ble_eq_true rfl) (Nat.le_of_ble_eq_true rfl) (Nat.zero_le _) (Nat.zero_le _) g25 dX8_go_87 ?_
          refine lv_aload_n hx hb dX8_go_90 rfl (lv_at hl 3 rfl) ?_
          refine va_get (D := D) (ci := 10) (v := .ref a_t_half) (C := RX8) (T := TX8) (N := 14) hx hb hts mc_X8_go_X8 hown hK hP 0 rfl rfl 3 (by decide) (hts _ mf_X8_go_13) (fun _ h9 => h9) rfl dX8_go_91 ?_
          refine lv_iload hx hb dX8_go_94 (lv_at hl 2 rfl) ?_
          obtain ⟨g11, h⟩ := gd_e h
          refine va_iald hx hb hK hP 2 0 rfl rfl (vin_in g11) dX8_go_96 ?_
          refine lv_i2d hx hb dX8_go_97 ?_
          refine lv_dcmp hx hb dX8_go_98 ?_
          refine lv_if_le (tgt := 109) hx hb dX8_go_99 (by decide) (fun q12 => ?_) (fun q12 => ?_)
          · replace h := ifp h q12
            refine lv_aload_n hx hb dX8_go_109 rfl (lv_at hl 3 rfl) ?_
            refine va_get (D := D) (ci := 10) (v := .ref a_t_power) (C := RX8) (T := TX8) (N := 14) hx hb hts mc_X8_go_X8 hown hK hP 0 rfl rfl 4 (by decide) (hts _ mf_X8_go_16) (fun _ h9 => h9) rfl dX8_go_110 ?_
            refine lv_iload hx hb dX8_go_113 (lv_at hl 2 rfl) ?_
            obtain ⟨g13, h⟩ := gd_e h
            refine va_iald hx hb hK hP 3 0 rfl rfl (vin_in g13) dX8_go_115 ?_
            refine lv_if_eq (tgt := 141) hx hb dX8_go_116 (by decide) (fun q14 => ?_) (fun q14 => ?_)
            · replace h := ifp h q14
              refine lv_aload_n hx hb dX8_go_141 rfl (lv_at hl 3 rfl) ?_
              refine lv_aload_n hx hb dX8_go_142 rfl (lv_at hl 3 rfl) ?_
              refine va_get (D := D) (ci := 10) (v := .ref a_t_place) (C := RX8) (T := TX8) (N := 14) hx hb hts mc_X8_go_X8 hown hK hP 0 rfl rfl 2 (by decide) (hts _ mf_X8_go_9) (fun _ h9 => h9) rfl dX8_go_143 ?_
              refine lv_iload hx hb dX8_go_146 (lv_at hl 2 rfl) ?_
              obtain ⟨g15, h⟩ := gd_e h
              refine va_iald hx hb hK hP 1 0 rfl rfl (vin_in g15) dX8_go_148 ?_
              obtain ⟨o16, e17, h⟩ := bd_e h
              refine co_i (W0 := [(a_t, .inr (10, [.int c_t_thrown, .int c_t_pieces, .ref a_t_place, .ref a_t_half, .ref a_t_power, .ref a_t_glass, .int c_t_thing, .int c_t_screen, .int c_t_tall, .int c_t_refused, .double (FP.dadd s1.2.2.1 (FP.dmul s1.2.2.2 (FP.i2d ((c_t_place (s1.1).toNatClampNeg) - s1.2.1)))), .double s1.2.2.2, .int (-1 : Int32), .long c_t_sum])), (a_t_place, .inl (cI, 8, .inl c_t_place))]) (wr := [(a_t_half, .inl (cI, 8, .inl c_t_half)), (a_t_power, .inl (cI, 8, .inl c_t_power)), (a_t_glass, .inl (cI, 8, .inl c_t_glass))]) (W1 := [(a_t, .inr (10, [.int c_t_thrown, .int c_t_pieces, .ref a_t_place, .ref a_t_half, .ref a_t_power, .ref a_t_glass, .int c_t_thing, .int c_t_screen, .int c_t_tall, .int c_t_refused, .double (FP.dadd s1.2.2.1 (FP.dmul s1.2.2.2 (FP.i2d ((c_t_place (s1.1).toNatClampNeg) - s1.2.1)))), .double s1.2.2.2, .int (-1 : Int32), .long c_t_sum])), (a_t_place, .inl (cI, 8, .inl c_t_place))]) (ws2 := [(a_t, .inr (10, [.int c_t_thrown, .int c_t_pieces, .ref a_t_place, .ref a_t_half, .ref a_t_power, .ref a_t_glass, .int c_t_thing, .int c_t_screen, .int c_t_tall, .int c_t_refused, .double (FP.dadd s1.2.2.1 (FP.dmul s1.2.2.2 (FP.i2d ((c_t_place (s1.1).toNatClampNeg) - s1.2.1)))), .double s1.2.2.2, .int (-1 : Int32), .long c_t_sum])), (a_t_place, .inl (cI, 8, .inl c_t_place)), (a_t_half, .inl (cI, 8, .inl c_t_half)), (a_t_power, .inl (cI, 8, .inl c_t_power)), (a_t_glass, .inl (cI, 8, .inl c_t_glass))]) (va_runV (C := RX8) (As := [.int (c_t_place (s1.1).toNatClampNeg)]) (rest := []) ⟨hx, hb, hml, hown, hts⟩ (m_X8_next l D cI cD cB a_t a_t_place a_t_half a_t_power a_t_glass (c_t_place (s1.1).toNatClampNeg) c_t_thrown c_t_pieces c_t_thing c_t_screen c_t_tall c_t_refused (FP.dadd s1.2.2.1 (FP.dmul s1.2.2.2 (FP.i2d ((c_t_place (s1.1).toNatClampNeg) - s1.2.1)))) s1.2.2.2 (-1 : Int32) c_t_sum c_t_place o16 e17 _) (cwV 1 hts gX8_go_X8_next rfl rfl rfl (by decide +kernel) ⟨Nat.le_of_ble_eq_true rfl, Nat.le_of_ble_eq_true rfl⟩) (my_preV (q := (RX8, TX8, 14)) (ci := 10) (q0 := 0) [0, 1] hP hK hNM hZ hD hS hA rfl rfl rfl rfl) rfl rfl hl.1 rfl (lv_room (Nat.le_of_ble_eq_true rfl)) dX8_go_149 ⟨Nat.zero_le _, Nat.zero_le _⟩) hP hD hS hA [0, 1] [2, 3, 4] [3, 4, 0, 1, 2] rfl rfl rfl rfl rfl (by decide) (fun H locs hP hD hS => ?_)
              refine lv_istore (lv' := [(8, .int o16), (7, .int (c_t_place (s1.1).toNatClampNeg)), (9, .int ((c_t_place (s1.1).toNatClampNeg) - s1.2.1)), (0, .ref a_t), (1, .double p1), (3, .double p2), (5, .int p3), (6, .int p4)]) hx hb dX8_go_152 hl (by decide) rfl (fun ls hl => ?_)
              refine lv_goto (tgt := 29) hx hb dX8_go_154 (by decide) ?_
              exact ih1 (o16, (c_t_place (s1.1).toNatClampNeg), (FP.dadd s1.2.2.1 (FP.dmul s1.2.2.2 (FP.i2d ((c_t_place (s1.1).toNatClampNeg) - s1.2.1)))), s1.2.2.2) _ _ _ hP hD hS (lv_sub hl [0, 1, 3, 4, 5, 6, 7] rfl) h
            · replace h := ifn h q14
              refine lv_aload_n hx hb dX8_go_119 rfl (lv_at hl 3 rfl) ?_
              refine lv_aload_n hx hb dX8_go_120 rfl (lv_at hl 3 rfl) ?_
              refine va_get (D := D) (ci := 10) (v := .double s1.2.2.2) (C := RX8) (T := TX8) (N := 14) hx hb hts mc_X8_go_X8 hown hK hP 0 rfl rfl 11 (by decide) (hts _ mf_X8_go_70) (fun _ h9 => h9) rfl dX8_go_121 ?_
              refine lv_aload_n hx hb dX8_go_124 rfl (lv_at hl 3 rfl) ?_
              refine va_get (D := D) (ci := 10) (v := .double (FP.dadd s1.2.2.1 (FP.dmul s1.2.2.2 (FP.i2d ((c_t_place (s1.1).toNatClampNeg) - s1.2.1))))) (C := RX8) (T := TX8) (N := 14) hx hb hts mc_X8_go_X8 hown hK hP 0 rfl rfl 10 (by decide) (hts _ mf_X8_go_66) (fun _ h9 => h9) rfl dX8_go_125 ?_
              refine lv_aload_n hx hb dX8_go_128 rfl (lv_at hl 3 rfl) ?_
              refine lv_iload hx hb dX8_go_129 (lv_at hl 2 rfl) ?_
              refine lv_iload hx hb dX8_go_131 (lv_at hl 6 rfl) ?_
              obtain ⟨o18, e19, h⟩ := bd_e h
              refine co_d (W0 := [(a_t, .inr (10, [.int c_t_thrown, .int c_t_pieces, .ref a_t_place, .ref a_t_half, .ref a_t_power, .ref a_t_glass, .int c_t_thing, .int c_t_screen, .int c_t_tall, .int c_t_refused, .double (FP.dadd s1.2.2.1 (FP.dmul s1.2.2.2 (FP.i2d ((c_t_place (s1.1).toNatClampNeg) - s1.2.1)))), .double s1.2.2.2, .int (-1 : Int32), .long c_t_sum])), (a_t_power, .inl (cI, 8, .inl c_t_power)), (a_t_glass, .inl (cI, 8, .inl c_t_glass))]) (wr := [(a_t_place, .inl (cI, 8, .inl c_t_place)), (a_t_half, .inl (cI, 8, .inl c_t_half))]) (W1 := [(a_t, .inr (10, [.int c_t_thrown, .int c_t_pieces, .ref a_t_place, .ref a_t_half, .ref a_t_power, .ref a_t_glass, .int c_t_thing, .int c_t_screen, .int c_t_tall, .int c_t_refused, .double (FP.dadd s1.2.2.1 (FP.dmul s1.2.2.2 (FP.i2d ((c_t_place (s1.1).toNatClampNeg) - s1.2.1)))), .double s1.2.2.2, .int (-1 : Int32), .long c_t_sum])), (a_t_power, .inl (cI, 8, .inl c_t_power)), (a_t_glass, .inl (cI, 8, .inl c_t_glass))]) (ws2 := [(a_t, .inr (10, [.int c_t_thrown, .int c_t_pieces, .ref a_t_place, .ref a_t_half, .ref a_t_power, .ref a_t_glass, .int c_t_thing, .int c_t_screen, .int c_t_tall, .int c_t_refused, .double (FP.dadd s1.2.2.1 (FP.dmul s1.2.2.2 (FP.i2d ((c_t_place (s1.1).toNatClampNeg) - s1.2.1)))), .double s1.2.2.2, .int (-1 : Int32), .long c_t_sum])), (a_t_place, .inl (cI, 8, .inl c_t_place)), (a_t_half, .inl (cI, 8, .inl c_t_half)), (a_t_power, .inl (cI, 8, .inl c_t_power)), (a_t_glass, .inl (cI, 8, .inl c_t_glass))]) (va_runV (C := RX8) (As := [.int s1.1, .int p3]) (rest := [.double (FP.dadd s1.2.2.1 (FP.dmul s1.2.2.2 (FP.i2d ((c_t_place (s1.1).toNatClampNeg) - s1.2.1)))), .double s1.2.2.2, .ref a_t]) ⟨hx, hb, hml, hown, hts⟩ (m_X8_strengthNow l D cI cD cB a_t a_t_place a_t_half a_t_power a_t_glass s1.1 p3 c_t_thrown c_t_pieces c_t_thing c_t_screen c_t_tall c_t_refused (FP.dadd s1.2.2.1 (FP.dmul s1.2.2.2 (FP.i2d ((c_t_place (s1.1).toNatClampNeg) - s1.2.1)))) s1.2.2.2 (-1 : Int32) c_t_sum c_t_power c_t_glass o18 e19 _) (cwV 2 hts gX8_go_X8_strengthNow rfl rfl rfl (by decide +kernel) ⟨Nat.le_of_ble_eq_true rfl, Nat.le_of_ble_eq_true rfl⟩) (my_preV (q := (RX8, TX8, 14)) (ci := 10) (q0 := 0) [0, 3, 4] hP hK hNM hZ hD hS hA rfl rfl rfl rfl) rfl rfl hl.1 rfl (lv_room (Nat.le_of_ble_eq_true rfl)) dX8_go_133 ⟨Nat.zero_le _, Nat.zero_le _⟩) hP hD hS hA [0, 3, 4] [1, 2] [2, 0, 1, 3, 4] rfl rfl rfl rfl rfl (by decide) (fun H locs hP hD hS => ?_)
              obtain ⟨g20, h⟩ := gd_e h
              refine lv_dmul hx hb dX8_go_136 (n64_n g20) ?_
              obtain ⟨g21, h⟩ := gd_e h
              refine lv_dsub hx hb dX8_go_137 (n64_n g21) ?_
              refine va_put (D := D) (ci := 10) (v := .double (FP.dsub s1.2.2.2 (FP.dmul (FP.dadd s1.2.2.1 (FP.dmul s1.2.2.2 (FP.i2d ((c_t_place (s1.1).toNatClampNeg) - s1.2.1)))) o18))) (ty := .double) (C := RX8) (T := TX8) (N := 14) hx hb hts mc_X8_go_X8 tyX8 tyX8_ok nmX8 hown hK hP hD hS 0 rfl rfl 11 (by decide) (hts _ mf_X8_go_70) (fun _ h9 => h9) rfl (tyX8_ok 11 (by decide)) rfl rfl (Nat.le_of_ble_eq_true rfl) dX8_go_138 (fun H locs hP hD hS => ?_)
              have hP : va_P D vwCl [(a_t, .inr (10, [.int c_t_thrown, .int c_t_pieces, .ref a_t_place, .ref a_t_half, .ref a_t_power, .ref a_t_glass, .int c_t_thing, .int c_t_screen, .int c_t_tall, .int c_t_refused, .double (FP.dadd s1.2.2.1 (FP.dmul s1.2.2.2 (FP.i2d ((c_t_place (s1.1).toNatClampNeg) - s1.2.1)))), .double (FP.dsub s1.2.2.2 (FP.dmul (FP.dadd s1.2.2.1 (FP.dmul s1.2.2.2 (FP.i2d ((c_t_place (s1.1).toNatClampNeg) - s1.2.1)))) o18)), .int (-1 : Int32), .long c_t_sum])), (a_t_place, .inl (cI, 8, .inl c_t_place)), (a_t_half, .inl (cI, 8, .inl c_t_half)), (a_t_power, .inl (cI, 8, .inl c_t_power)), (a_t_glass, .inl (cI, 8, .inl c_t_glass))] H := hP
              have hD : va_D A [(a_t, .inr (10, [.int c_t_thrown, .int c_t_pieces, .ref a_t_place, .ref a_t_half, .ref a_t_power, .ref a_t_glass, .int c_t_thing, .int c_t_screen, .int c_t_tall, .int c_t_refused, .double (FP.dadd s1.2.2.1 (FP.dmul s1.2.2.2 (FP.i2d ((c_t_place (s1.1).toNatClampNeg) - s1.2.1)))), .double (FP.dsub s1.2.2.2 (FP.dmul (FP.dadd s1.2.2.1 (FP.dmul s1.2.2.2 (FP.i2d ((c_t_place (s1.1).toNatClampNeg) - s1.2.1)))) o18)), .int (-1 : Int32), .long c_t_sum])), (a_t_place, .inl (cI, 8, .inl c_t_place)), (a_t_half, .inl (cI, 8, .inl c_t_half)), (a_t_power, .inl (cI, 8, .inl c_t_power)), (a_t_glass, .inl (cI, 8, .inl c_t_glass))] := hD
              refine lv_aload_n hx hb dX8_go_141 rfl (lv_at hl 3 rfl) ?_
              refine lv_aload_n hx hb dX8_go_142 rfl (lv_at hl 3 rfl) ?_
              refine va_get (D := D) (ci := 10) (v := .ref a_t_place) (C := RX8) (T := TX8) (N := 14) hx hb hts mc_X8_go_X8 hown hK hP 0 rfl rfl 2 (by decide) (hts _ mf_X8_go_9) (fun _ h9 => h9) rfl dX8_go_143 ?_
              refine lv_iload hx hb dX8_go_146 (lv_at hl 2 rfl) ?_
              obtain ⟨g22, h⟩ := gd_e h
              refine va_iald hx hb hK hP 1 0 rfl rfl (vin_in g22) dX8_go_148 ?_
              obtain ⟨o23, e24, h⟩ := bd_e h
              refine co_i (W0 := [(a_t, .inr (10, [.int c_t_thrown, .int c_t_pieces, .ref a_t_place, .ref a_t_half, .ref a_t_power, .ref a_t_glass, .int c_t_thing, .int c_t_screen, .int c_t_tall, .int c_t_refused, .double (FP.dadd s1.2.2.1 (FP.dmul s1.2.2.2 (FP.i2d ((c_t_place (s1.1).toNatClampNeg) - s1.2.1)))), .double (FP.dsub s1.2.2.2 (FP.dmul (FP.dadd s1.2.2.1 (FP.dmul s1.2.2.2 (FP.i2d ((c_t_place (s1.1).toNatClampNeg) - s1.2.1)))) o18)), .int (-1 : Int32), .long c_t_sum])), (a_t_place, .inl (cI, 8, .inl c_t_place))]) (wr := [(a_t_half, .inl (cI, 8, .inl c_t_half)), (a_t_power, .inl (cI, 8, .inl c_t_power)), (a_t_glass, .inl (cI, 8, .inl c_t_glass))]) (W1 := [(a_t, .inr (10, [.int c_t_thrown, .int c_t_pieces, .ref a_t_place, .ref a_t_half, .ref a_t_power, .ref a_t_glass, .int c_t_thing, .int c_t_screen, .int c_t_tall, .int c_t_refused, .double (FP.dadd s1.2.2.1 (FP.dmul s1.2.2.2 (FP.i2d ((c_t_place (s1.1).toNatClampNeg) - s1.2.1)))), .double (FP.dsub s1.2.2.2 (FP.dmul (FP.dadd s1.2.2.1 (FP.dmul s1.2.2.2 (FP.i2d ((c_t_place (s1.1).toNatClampNeg) - s1.2.1)))) o18)), .int (-1 : Int32), .long c_t_sum])), (a_t_place, .inl (cI, 8, .inl c_t_place))]) (ws2 := [(a_t, .inr (10, [.int c_t_thrown, .int c_t_pieces, .ref a_t_place, .ref a_t_half, .ref a_t_power, .ref a_t_glass, .int c_t_thing, .int c_t_screen, .int c_t_tall, .int c_t_refused, .double (FP.dadd s1.2.2.1 (FP.dmul s1.2.2.2 (FP.i2d ((c_t_place (s1.1).toNatClampNeg) - s1.2.1)))), .double (FP.dsub s1.2.2.2 (FP.dmul (FP.dadd s1.2.2.1 (FP.dmul s1.2.2.2 (FP.i2d ((c_t_place (s1.1).toNatClampNeg) - s1.2.1)))) o18)), .int (-1 : Int32), .long c_t_sum])), (a_t_place, .inl (cI, 8, .inl c_t_place)), (a_t_half, .inl (cI, 8, .inl c_t_half)), (a_t_power, .inl (cI, 8, .inl c_t_power)), (a_t_glass, .inl (cI, 8, .inl c_t_glass))]) (va_runV (C := RX8) (As := [.int (c_t_place (s1.1).toNatClampNeg)]) (rest := []) ⟨hx, hb, hml, hown, hts⟩ (m_X8_next l D cI cD cB a_t a_t_place a_t_half a_t_power a_t_glass (c_t_place (s1.1).toNatClampNeg) c_t_thrown c_t_pieces c_t_thing c_t_screen c_t_tall c_t_refused (FP.dadd s1.2.2.1 (FP.dmul s1.2.2.2 (FP.i2d ((c_t_place (s1.1).toNatClampNeg) - s1.2.1)))) (FP.dsub s1.2.2.2 (FP.dmul (FP.dadd s1.2.2.1 (FP.dmul s1.2.2.2 (FP.i2d ((c_t_place (s1.1).toNatClampNeg) - s1.2.1)))) o18)) (-1 : Int32) c_t_sum c_t_place o23 e24 _) (cwV 1 hts gX8_go_X8_next rfl rfl rfl (by decide +kernel) ⟨Nat.le_of_ble_eq_true rfl, Nat.le_of_ble_eq_true rfl⟩) (my_preV (q := (RX8, TX8, 14)) (ci := 10) (q0 := 0) [0, 1] hP hK hNM hZ hD hS hA rfl rfl rfl rfl) rfl rfl hl.1 rfl (lv_room (Nat.le_of_ble_eq_true rfl)) dX8_go_149 ⟨Nat.zero_le _, Nat.zero_le _⟩) hP hD hS hA [0, 1] [2, 3, 4] [3, 4, 0, 1, 2] rfl rfl rfl rfl rfl (by decide) (fun H locs hP hD hS => ?_)
              refine lv_istore (lv' := [(8, .int o23), (7, .int (c_t_place (s1.1).toNatClampNeg)), (9, .int ((c_t_place (s1.1).toNatClampNeg) - s1.2.1)), (0, .ref a_t), (1, .double p1), (3, .double p2), (5, .int p3), (6, .int p4)]) hx hb dX8_go_152 hl (by decide) rfl (fun ls hl => ?_)
              refine lv_goto (tgt := 29) hx hb dX8_go_154 (by decide) ?_
              exact ih1 (o23, (c_t_place (s1.1).toNatClampNeg), (FP.dadd s1.2.2.1 (FP.dmul s1.2.2.2 (FP.i2d ((c_t_place (s1.1).toNatClampNeg) - s1.2.1)))), (FP.dsub s1.2.2.2 (FP.dmul (FP.dadd s1.2.2.1 (FP.dmul s1.2.2.2 (FP.i2d ((c_t_place (s1.1).toNatClampNeg) - s1.2.1)))) o18))) _ _ _ hP hD hS (lv_sub hl [0, 1, 3, 4, 5, 6, 7] rfl) h
          · replace h := ifn h q12
            refine lv_aload_n hx hb dX8_go_102 rfl (lv_at hl 3 rfl) ?_
            refine lv_iload hx hb dX8_go_103 (lv_at hl 2 rfl) ?_
            refine va_put (D := D) (ci := 10) (v := .int s1.1) (ty := .int) (C := RX8) (T := TX8) (N := 14) hx hb hts mc_X8_go_X8 tyX8 tyX8_ok nmX8 hown hK hP hD hS 0 rfl rfl 12 (by decide) (hts _ mf_X8_go_73) (fun _ h9 => h9) rfl (tyX8_ok 12 (by decide)) rfl rfl (Nat.le_of_ble_eq_true rfl) dX8_go_105 (fun H locs hP hD hS => ?_)
            have hP : va_P D vwCl [(a_t, .inr (10, [.int c_t_thrown, .int c_t_pieces, .ref a_t_place, .ref a_t_half, .ref a_t_power, .ref a_t_glass, .int c_t_thing, .int c_t_screen, .int c_t_tall, .int c_t_refused, .double (FP.dadd s1.2.2.1 (FP.dmul s1.2.2.2 (FP.i2d ((c_t_place (s1.1).toNatClampNeg) - s1.2.1)))), .double s1.2.2.2, .int s1.1, .long c_t_sum])), (a_t_place, .inl (cI, 8, .inl c_t_place)), (a_t_half, .inl (cI, 8, .inl c_t_half)), (a_t_power, .inl (cI, 8, .inl c_t_power)), (a_t_glass, .inl (cI, 8, .inl c_t_glass))] H := hP
            have hD : va_D A [(a_t, .inr (10, [.int c_t_thrown, .int c_t_pieces, .ref a_t_place, .ref a_t_half, .ref a_t_power, .ref a_t_glass, .int c_t_thing, .int c_t_screen, .int c_t_tall, .int c_t_refused, .double (FP.dadd s1.2.2.1 (FP.dmul s1.2.2.2 (FP.i2d ((c_t_place (s1.1).toNatClampNeg) - s1.2.1)))), .double s1.2.2.2, .int s1.1, .long c_t_sum])), (a_t_place, .inl (cI, 8, .inl c_t_place)), (a_t_half, .inl (cI, 8, .inl c_t_half)), (a_t_power, .inl (cI, 8, .inl c_t_power)), (a_t_glass, .inl (cI, 8, .inl c_t_glass))] := hD
            rw [← some_e h] at hfin
            exact hfin 108 _ _ _ dX8_go_108 hP hD hS
        · replace h := ifp h q6
          refine lv_goto (tgt := 141) hx hb dX8_go_42 (by decide) ?_
          refine lv_aload_n hx hb dX8_go_141 rfl (lv_at hl 2 rfl) ?_
          refine lv_aload_n hx hb dX8_go_142 rfl (lv_at hl 2 rfl) ?_
          refine va_get (D := D) (ci := 10) (v := .ref a_t_place) (C := RX8) (T := TX8) (N := 14) hx hb hts mc_X8_go_X8 hown hK hP 0 rfl rfl 2 (by decide) (hts _ mf_X8_go_9) (fun _ h9 => h9) rfl dX8_go_143 ?_
          refine lv_iload hx hb dX8_go_146 (lv_at hl 0 rfl) ?_
          obtain ⟨g26, h⟩ := gd_e h
          refine va_iald hx hb hK hP 1 0 rfl rfl (vin_in g26) dX8_go_148 ?_
          obtain ⟨o27, e28, h⟩ := bd_e h
          refine co_i (W0 := [(a_t, .inr (10, [.int c_t_thrown, .int c_t_pieces, .ref a_t_place, .ref a_t_half, .ref a_t_power, .ref a_t_glass, .int c_t_thing, .int c_t_screen, .int c_t_tall, .int c_t_refused, .double s1.2.2.1, .double s1.2.2.2, .int (-1 : Int32), .long c_t_sum])), (a_t_place, .inl (cI, 8, .inl c_t_place))]) (wr := [(a_t_half, .inl (cI, 8, .inl c_t_half)), (a_t_power, .inl (cI, 8, .inl c_t_power)), (a_t_glass, .inl (cI, 8, .inl c_t_glass))]) (W1 := [(a_t, .inr (10, [.int c_t_thrown, .int c_t_pieces, .ref a_t_place, .ref a_t_half, .ref a_t_power, .ref a_t_glass, .int c_t_thing, .int c_t_screen, .int c_t_tall, .int c_t_refused, .double s1.2.2.1, .double s1.2.2.2, .int (-1 : Int32), .long c_t_sum])), (a_t_place, .inl (cI, 8, .inl c_t_place))]) (ws2 := [(a_t, .inr (10, [.int c_t_thrown, .int c_t_pieces, .ref a_t_place, .ref a_t_half, .ref a_t_power, .ref a_t_glass, .int c_t_thing, .int c_t_screen, .int c_t_tall, .int c_t_refused, .double s1.2.2.1, .double s1.2.2.2, .int (-1 : Int32), .long c_t_sum])), (a_t_place, .inl (cI, 8, .inl c_t_place)), (a_t_half, .inl (cI, 8, .inl c_t_half)), (a_t_power, .inl (cI, 8, .inl c_t_power)), (a_t_glass, .inl (cI, 8, .inl c_t_glass))]) (va_runV (C := RX8) (As := [.int (c_t_place (s1.1).toNatClampNeg)]) (rest := []) ⟨hx, hb, hml, hown, hts⟩ (m_X8_next l D cI cD cB a_t a_t_place a_t_half a_t_power a_t_glass (c_t_place (s1.1).toNatClampNeg) c_t_thrown c_t_pieces c_t_thing c_t_screen c_t_tall c_t_refused s1.2.2.1 s1.2.2.2 (-1 : Int32) c_t_sum c_t_place o27 e28 _) (cwV 1 hts gX8_go_X8_next rfl rfl rfl (by decide +kernel) ⟨Nat.le_of_ble_eq_true rfl, Nat.le_of_ble_eq_true rfl⟩) (my_preV (q := (RX8, TX8, 14)) (ci := 10) (q0 := 0) [0, 1] hP hK hNM hZ hD hS hA rfl rfl rfl rfl) rfl rfl hl.1 rfl (lv_room (Nat.le_of_ble_eq_true rfl)) dX8_go_149 ⟨Nat.zero_le _, Nat.zero_le _⟩) hP hD hS hA [0, 1] [2, 3, 4] [3, 4, 0, 1, 2] rfl rfl rfl rfl rfl (by decide) (fun H locs hP hD hS => ?_)
          refine lv_istore (lv' := [(8, .int o27), (7, .int s1.2.1), (0, .ref a_t), (1, .double p1), (3, .double p2), (5, .int p3), (6, .int p4)]) hx hb dX8_go_152 hl (by decide) rfl (fun ls hl => ?_)
          refine lv_goto (tgt := 29) hx hb dX8_go_154 (by decide) ?_
          exact ih1 (o27, s1.2.1, s1.2.2.1, s1.2.2.2) _ _ _ hP hD hS (lv_sub hl [0, 1, 2, 3, 4, 5, 6] rfl) h
  exact LOOP1 1000 (o1, c_t_thing, p1, p2) _ _ _ hP hD hS hl h
theorem mc_X8_blurNow_X8 : ∀ w ∈ wsX80, w ∈ wsX8_blurNow := by decide +kernel
theorem mf_X8_blurNow_26 : Cond.fieldLink RX8 26 "LensbenchModel" "tall" "I" ∈ wsX8_blurNow := by decide +kernel
theorem mf_X8_blurNow_66 : Cond.fieldLink RX8 66 "LensbenchModel" "height" "D" ∈ wsX8_blurNow := by decide +kernel
theorem mf_X8_blurNow_73 : Cond.fieldLink RX8 73 "LensbenchModel" "cut" "I" ∈ wsX8_blurNow := by decide +kernel
theorem mk_X8_blurNow_107 : Cond.constantDouble RX8 107 (13830554455654793216) ∈ wsX8_blurNow := by decide +kernel
theorem mk_X8_blurNow_89 : Cond.constantDouble RX8 89 (4616189618054758400) ∈ wsX8_blurNow := by decide +kernel
theorem mk_X8_blurNow_91 : Cond.constantDouble RX8 91 (4632233691727265792) ∈ wsX8_blurNow := by decide +kernel
theorem mmc_X8_blurNow_101 : Cond.code yJ9_max_eb370 cJ9_max_eb370 4 (some .double) ∈ wsX8_blurNow := by decide +kernel
theorem mmc_X8_blurNow_97 : Cond.code yJ9_min_eb370 cJ9_min_eb370 4 (some .double) ∈ wsX8_blurNow := by decide +kernel
theorem mmi_X8_blurNow_101 : Cond.initialized RJ9 ∈ wsX8_blurNow := by decide +kernel
theorem mmi_X8_blurNow_97 : Cond.initialized RJ9 ∈ wsX8_blurNow := by decide +kernel
theorem mml_X8_blurNow_101 : Cond.methodLink RX8 101 yJ9_max_eb370 ∈ wsX8_blurNow := by decide +kernel
theorem mml_X8_blurNow_97 : Cond.methodLink RX8 97 yJ9_min_eb370 ∈ wsX8_blurNow := by decide +kernel
theorem mms_X8_blurNow_101 : Cond.static yJ9_max_eb370 ∈ wsX8_blurNow := by decide +kernel
theorem mms_X8_blurNow_97 : Cond.static yJ9_min_eb370 ∈ wsX8_blurNow := by decide +kernel
abbrev rm_X8_blurNow : Room := { frames := 2, cells := 0, slots := 0, locals := 55 }
set_option maxHeartbeats 4000000 in
set_option maxRecDepth 100000 in
theorem m_X8_blurNow (l : Launch) (D : va_G) (cI cD cB : ClassId) (a_t : Nat) (a_t_place : Nat) (a_t_half : Nat) (a_t_power : Nat) (a_t_glass : Nat) (p1 : Int32) (c_t_thrown : Int32) (c_t_pieces : Int32) (c_t_thing : Int32) (c_t_screen : Int32) (c_t_tall : Int32) (c_t_refused : Int32) (c_t_height : UInt64) (c_t_slope : UInt64) (c_t_cut : Int32) (c_t_sum : Int64) (c_t_place : Nat → Int32) (c_t_half : Nat → Int32) (c_t_power : Nat → Int32) (c_t_glass : Nat → Int32) (R : UInt64 × UInt64 × UInt64 × Int32) (h : f_X8_blurNow p1 c_t_pieces c_t_thing c_t_screen c_t_tall c_t_height c_t_slope c_t_cut c_t_place c_t_half c_t_power c_t_glass = some R) : Cd l yX8_blurNow wsX8_blurNow rm_X8_blurNow D (TT cI cD cB) [.ref a_t, .int p1] [(a_t, .inr (10, [.int c_t_thrown, .int c_t_pieces, .ref a_t_place, .ref a_t_half, .ref a_t_power, .ref a_t_glass, .int c_t_thing, .int c_t_screen, .int c_t_tall, .int c_t_refused, .double c_t_height, .double c_t_slope, .int c_t_cut, .long c_t_sum])), (a_t_place, .inl (cI, 8, .inl c_t_place)), (a_t_half, .inl (cI, 8, .inl c_t_half)), (a_t_power, .inl (cI, 8, .inl c_t_power)), (a_t_glass, .inl (cI, 8, .inl c_t_glass))] [(a_t, .inr (10, [.int c_t_thrown, .int c_t_pieces, .ref a_t_place, .ref a_t_half, .ref a_t_power, .ref a_t_glass, .int c_t_thing, .int c_t_screen, .int c_t_tall, .int c_t_refused, .double R.2.1, .double R.2.2.1, .int R.2.2.2, .long c_t_sum])), (a_t_place, .inl (cI, 8, .inl c_t_place)), (a_t_half, .inl (cI, 8, .inl c_t_half)), (a_t_power, .inl (cI, 8, .inl c_t_power)), (a_t_glass, .inl (cI, 8, .inl c_t_glass))] R.1 0 0 := by
  unfold f_X8_blurNow at h
  refine st_d (cc := cX8_blurNow) (maxL := 8) (by decide) rfl (Nat.le_of_ble_eq_true rfl) (fun p e s m av below meth c A Q ls hx hb hml hts hown hA hK hNM hZ hP hD hS hl hfin => ?_)
  have hown : s.vm.findClass RX8 = some m.cls := hown
  have hl : lv_has ls 8 [(0, .ref a_t), (1, .int p1)] := hl
  refine lv_dconst0 hx hb dX8_blurNow_0 ?_
  refine lv_dstore_n (lv' := [(2, .double FP.dconst0), (0, .ref a_t), (1, .int p1)]) hx hb dX8_blurNow_1 rfl hl (by decide) rfl (fun ls hl => ?_)
  refine lv_dconst0 hx hb dX8_blurNow_2 ?_
  refine lv_dstore (lv' := [(4, .double FP.dconst0), (2, .double FP.dconst0), (0, .ref a_t), (1, .int p1)]) hx hb dX8_blurNow_3 hl (by decide) rfl (fun ls hl => ?_)
  refine lv_iconst (v := (0 : Int32)) hx hb dX8_blurNow_5 (by decide) ?_
  refine lv_istore (lv' := [(6, .int (0 : Int32)), (4, .double FP.dconst0), (2, .double FP.dconst0), (0, .ref a_t), (1, .int p1)]) hx hb dX8_blurNow_6 hl (by decide) rfl (fun ls hl => ?_)
  refine lv_bipush (v := (-10 : Int32)) hx hb dX8_blurNow_8 (by decide) ?_
  refine lv_istore (lv' := [(7, .int (-10 : Int32)), (6, .int (0 : Int32)), (4, .double FP.dconst0), (2, .double FP.dconst0), (0, .ref a_t), (1, .int p1)]) hx hb dX8_blurNow_10 hl (by decide) rfl (fun ls hl => ?_)
  have LOOP1 : ∀ (n1 : Nat) (s1 : Int32 × Int32 × UInt64 × UInt64 × UInt64 × UInt64 × Int32) (H : Heap) (locs : List Loc) (ls : Array Slot), va_P D vwCl [(a_t, .inr (10, [.int c_t_thrown, .int c_t_pieces, .ref a_t_place, .ref a_t_half, .ref a_t_power, .ref a_t_glass, .int c_t_thing, .int c_t_screen, .int c_t_tall, .int c_t_refused, .double s1.2.2.2.2.1, .double s1.2.2.2.2.2.1, .int s1.2.2.2.2.2.2, .long c_t_sum])), (a_t_place, .inl (cI, 8, .inl c_t_place)), (a_t_half, .inl (cI, 8, .inl c_t_half)), (a_t_power, .inl (cI, 8, .inl c_t_power)), (a_t_glass, .inl (cI, 8, .inl c_t_glass))] H → va_D A [(a_t, .inr (10, [.int c_t_thrown, .int c_t_pieces, .ref a_t_place, .ref a_t_half, .ref a_t_power, .ref a_t_glass, .int c_t_thing, .int c_t_screen, .int c_t_tall, .int c_t_refused, .double s1.2.2.2.2.1, .double s1.2.2.2.2.2.1, .int s1.2.2.2.2.2.2, .long c_t_sum])), (a_t_place, .inl (cI, 8, .inl c_t_place)), (a_t_half, .inl (cI, 8, .inl c_t_half)), (a_t_power, .inl (cI, 8, .inl c_t_power)), (a_t_glass, .inl (cI, 8, .inl c_t_glass))] → va_S A s.heap H locs → lv_has ls 8 [(7, .int s1.1), (6, .int s1.2.1), (4, .double s1.2.2.1), (2, .double s1.2.2.2.1), (0, .ref a_t), (1, .int p1)] → lp (f_X8_blurNow_b1 p1 c_t_pieces c_t_thing c_t_screen c_t_tall c_t_place c_t_half c_t_power c_t_glass) n1 s1 = some R → W p l e rm_X8_blurNow s m av below meth c H locs 0 0 Q (F0 m 12 ls []) := by
    intro n1
    induction n1 with
    | zero => intro s1 H locs ls hP hD hS hl h; exact lp_0 h
    | succ n1 ih1 =>
      intro s1 H locs ls hP hD hS hl h
      replace h := lp_s h
      unfold f_X8_blurNow_b1 at h
      refine lv_iload hx hb dX8_blurNow_12 (lv_at hl 0 rfl) ?_
      refine lv_bipush (v := (10 : Int32)) hx hb dX8_blurNow_14 (by decide) ?_
      refine lv_icmp_gt (tgt := 105) hx hb dX8_blurNow_16 (by decide) (fun q1 => ?_) (fun q1 => ?_)
      · replace h := ifp h q1
        refine lv_iload hx hb dX8_blurNow_105 (lv_at hl 1 rfl) ?_
        refine lv_if_eq (tgt := 120) hx hb dX8_blurNow_107 (by decide) (fun q2 => ?_) (fun q2 => ?_)
        · replace h := ifp h q2
          refine lv_ldc2d hx hb hown (hts _ mk_X8_blurNow_107) dX8_blurNow_120 ?_
          rw [← some_e h] at hfin
          exact hfin 123 _ _ _ dX8_blurNow_123 hP hD hS
        · replace h := ifn h q2
          refine lv_dload hx hb dX8_blurNow_110 (lv_at hl 2 rfl) ?_
          refine lv_dload_n hx hb dX8_blurNow_112 rfl (lv_at hl 3 rfl) ?_
          obtain ⟨g3, h⟩ := gd_e h
          refine lv_dsub hx hb dX8_blurNow_113 (n64_n g3) ?_
          obtain ⟨o4, e5, h⟩ := bd_e h
          refine co_d (W0 := []) (wr := [(a_t, .inr (10, [.int c_t_thrown, .int c_t_pieces, .ref a_t_place, .ref a_t_half, .ref a_t_power, .ref a_t_glass, .int c_t_thing, .int c_t_screen, .int c_t_tall, .int c_t_refused, .double s1.2.2.2.2.1, .double s1.2.2.2.2.2.1, .int s1.2.2.2.2.2.2, .long c_t_sum])), (a_t_place, .inl (cI, 8, .inl c_t_place)), (a_t_half, .inl (cI, 8, .inl c_t_half)), (a_t_power, .inl (cI, 8, .inl c_t_power)), (a_t_glass, .inl (cI, 8, .inl c_t_glass))]) (W1 := []) (ws2 := [(a_t, .inr (10, [.int c_t_thrown, .int c_t_pieces, .ref a_t_place, .ref a_t_half, .ref a_t_power, .ref a_t_glass, .int c_t_thing, .int c_t_screen, .int c_t_tall, .int c_t_refused, .double s1.2.2.2.2.1, .double s1.2.2.2.2.2.1, .int s1.2.2.2.2.2.2, .long c_t_sum])), (a_t_place, .inl (cI, 8, .inl c_t_place)), (a_t_half, .inl (cI, 8, .inl c_t_half)), (a_t_power, .inl (cI, 8, .inl c_t_power)), (a_t_glass, .inl (cI, 8, .inl c_t_glass))]) (va_runS (As := [.double (FP.dsub s1.2.2.1 s1.2.2.2.1)]) (rest := []) ⟨hx, hb, hml, hown, hts⟩ (m_X8_plain l D cI cD cB (FP.dsub s1.2.2.1 s1.2.2.2.1) o4 e5 _) (va_cwS 1 hts gX8_blurNow_X8_plain rfl rfl rfl (by decide +kernel) ⟨Nat.le_of_ble_eq_true rfl, Nat.le_of_ble_eq_true rfl⟩) (my_preS [] hP hK hNM hZ hD hS hA rfl rfl) rfl rfl hl.1 rfl (lv_room (Nat.le_of_ble_eq_true rfl)) dX8_blurNow_114 ⟨Nat.zero_le _, Nat.zero_le _⟩) hP hD hS hA [] [0, 1, 2, 3, 4] [0, 1, 2, 3, 4] rfl rfl rfl rfl rfl (by decide) (fun H locs hP hD hS => ?_)
          refine lv_goto (tgt := 123) hx hb dX8_blurNow_117 (by decide) ?_
          rw [← some_e h] at hfin
          exact hfin 123 _ _ _ dX8_blurNow_123 hP hD hS
      · replace h := ifn h q1
        refine lv_aload_n hx hb dX8_blurNow_19 rfl (lv_at hl 4 rfl) ?_
        refine lv_aload_n hx hb dX8_blurNow_20 rfl (lv_at hl 4 rfl) ?_
        refine va_get (D := D) (ci := 10) (v := .int c_t_tall) (C := RX8) (T := TX8) (N := 14) hx hb hts mc_X8_blurNow_X8 hown hK hP 0 rfl rfl 8 (by decide) (hts _ mf_X8_blurNow_26) (fun _ h9 => h9) rfl dX8_blurNow_21 ?_
        refine lv_i2d hx hb dX8_blurNow_24 ?_
        refine lv_ldc2d hx hb hown (hts _ mk_X8_blurNow_89) dX8_blurNow_25 ?_
        obtain ⟨g6, h⟩ := gd_e h
        refine lv_ddiv hx hb dX8_blurNow_28 (n64_n g6) ?_
        refine lv_iload hx hb dX8_blurNow_29 (lv_at hl 0 rfl) ?_
        refine lv_i2d hx hb dX8_blurNow_31 ?_
        refine lv_ldc2d hx hb hown (hts _ mk_X8_blurNow_91) dX8_blurNow_32 ?_
        obtain ⟨g7, h⟩ := gd_e h
        refine lv_ddiv hx hb dX8_blurNow_35 (n64_n g7) ?_
        refine lv_iload_n hx hb dX8_blurNow_36 rfl (lv_at hl 5 rfl) ?_
        refine lv_iconst (v := (-1 : Int32)) hx hb dX8_blurNow_37 (by decide) ?_
        obtain ⟨o8, e9, h⟩ := bd_e h
        refine co_v (W0 := [(a_t, .inr (10, [.int c_t_thrown, .int c_t_pieces, .ref a_t_place, .ref a_t_half, .ref a_t_power, .ref a_t_glass, .int c_t_thing, .int c_t_screen, .int c_t_tall, .int c_t_refused, .double s1.2.2.2.2.1, .double s1.2.2.2.2.2.1, .int s1.2.2.2.2.2.2, .long c_t_sum])), (a_t_place, .inl (cI, 8, .inl c_t_place)), (a_t_half, .inl (cI, 8, .inl c_t_half)), (a_t_power, .inl (cI, 8, .inl c_t_power)), (a_t_glass, .inl (cI, 8, .inl c_t_glass))]) (wr := []) (W1 := [(a_t, .inr (10, [.int c_t_thrown, .int c_t_pieces, .ref a_t_place, .ref a_t_half, .ref a_t_power, .ref a_t_glass, .int c_t_thing, .int c_t_screen, .int c_t_tall, .int c_t_refused, .double o8.1, .double o8.2.1, .int o8.2.2, .long c_t_sum])), (a_t_place, .inl (cI, 8, .inl c_t_place)), (a_t_half, .inl (cI, 8, .inl c_t_half)), (a_t_power, .inl (cI, 8, .inl c_t_power)), (a_t_glass, .inl (cI, 8, .inl c_t_glass))]) (ws2 := [(a_t, .inr (10, [.int c_t_thrown, .int c_t_pieces, .ref a_t_place, .ref a_t_half, .ref a_t_power, .ref a_t_glass, .int c_t_thing, .int c_t_screen, .int c_t_tall, .int c_t_refused, .double o8.1, .double o8.2.1, .int o8.2.2, .long c_t_sum])), (a_t_place, .inl (cI, 8, .inl c_t_place)), (a_t_half, .inl (cI, 8, .inl c_t_half)), (a_t_power, .inl (cI, 8, .inl c_t_power)), (a_t_glass, .inl (cI, 8, .inl c_t_glass))]) (va_runV (C := RX8) (As := [.double (FP.ddiv (FP.i2d c_t_tall) (4616189618054758400 : UInt64)), .double (FP.ddiv (FP.i2d s1.1) (4632233691727265792 : UInt64)), .int p1, .int (-1 : Int32)]) (rest := []) ⟨hx, hb, hml, hown, hts⟩ (m_X8_go l D cI cD cB a_t a_t_place a_t_half a_t_power a_t_glass (FP.ddiv (FP.i2d c_t_tall) (4616189618054758400 : UInt64)) (FP.ddiv (FP.i2d s1.1) (4632233691727265792 : UInt64)) p1 (-1 : Int32) c_t_thrown c_t_pieces c_t_thing c_t_screen c_t_tall c_t_refused s1.2.2.2.2.1 s1.2.2.2.2.2.1 s1.2.2.2.2.2.2 c_t_sum c_t_place c_t_half c_t_power c_t_glass o8 e9 _) (cwV 4 hts gX8_blurNow_X8_go rfl rfl rfl (by decide +kernel) ⟨Nat.le_of_ble_eq_true rfl, Nat.le_of_ble_eq_true rfl⟩) (my_preV (q := (RX8, TX8, 14)) (ci := 10) (q0 := 0) [0, 1, 2, 3, 4] hP hK hNM hZ hD hS hA rfl rfl rfl rfl) rfl rfl hl.1 rfl (lv_room (Nat.le_of_ble_eq_true rfl)) dX8_blurNow_38 ⟨Nat.zero_le _, Nat.zero_le _⟩) hP hD hS hA [0, 1, 2, 3, 4] [] [0, 1, 2, 3, 4] rfl rfl rfl rfl rfl (by decide) (fun H locs hP hD hS => ?_)
        refine lv_aload_n hx hb dX8_blurNow_41 rfl (lv_at hl 4 rfl) ?_
        refine va_get (D := D) (ci := 10) (v := .int o8.2.2) (C := RX8) (T := TX8) (N := 14) hx hb hts mc_X8_blurNow_X8 hown hK hP 0 rfl rfl 12 (by decide) (hts _ mf_X8_blurNow_73) (fun _ h9 => h9) rfl dX8_blurNow_42 ?_
        refine lv_iconst (v := (-1 : Int32)) hx hb dX8_blurNow_45 (by decide) ?_
        refine lv_icmp_eq (tgt := 52) hx hb dX8_blurNow_46 (by decide) (fun q10 => ?_) (fun q10 => ?_)
        · replace h := ifp h q10
          refine lv_iload hx hb dX8_blurNow_52 (lv_at hl 1 rfl) ?_
          refine lv_if_eq (tgt := 68) hx hb dX8_blurNow_54 (by decide) (fun q11 => ?_) (fun q11 => ?_)
          · replace h := ifp h q11
            refine lv_aload_n hx hb dX8_blurNow_68 rfl (lv_at hl 4 rfl) ?_
            refine va_get (D := D) (ci := 10) (v := .double o8.1) (C := RX8) (T := TX8) (N := 14) hx hb hts mc_X8_blurNow_X8 hown hK hP 0 rfl rfl 10 (by decide) (hts _ mf_X8_blurNow_66) (fun _ h9 => h9) rfl dX8_blurNow_69 ?_
            refine lv_dstore_n (lv' := [(2, .double o8.1), (7, .int s1.1), (6, .int s1.2.1), (4, .double s1.2.2.1), (0, .ref a_t), (1, .int p1)]) hx hb dX8_blurNow_72 rfl hl (by decide) rfl (fun ls hl => ?_)
            refine lv_iload hx hb dX8_blurNow_73 (lv_at hl 2 rfl) ?_
            refine lv_if_eq (tgt := 90) hx hb dX8_blurNow_75 (by decide) (fun q12 => ?_) (fun q12 => ?_)
            · replace h := ifp h q12
              refine lv_aload_n hx hb dX8_blurNow_90 rfl (lv_at hl 4 rfl) ?_
              refine va_get (D := D) (ci := 10) (v := .double o8.1) (C := RX8) (T := TX8) (N := 14) hx hb hts mc_X8_blurNow_X8 hown hK hP 0 rfl rfl 10 (by decide) (hts _ mf_X8_blurNow_66) (fun _ h9 => h9) rfl dX8_blurNow_91 ?_
              refine lv_dstore (lv' := [(4, .double o8.1), (2, .double o8.1), (7, .int s1.1), (6, .int s1.2.1), (0, .ref a_t), (1, .int p1)]) hx hb dX8_blurNow_94 hl (by decide) rfl (fun ls hl => ?_)
              refine lv_iconst (v := (1 : Int32)) hx hb dX8_blurNow_96 (by decide) ?_
              refine lv_istore (lv' := [(6, .int (1 : Int32)), (4, .double o8.1), (2, .double o8.1), (7, .int s1.1), (0, .ref a_t), (1, .int p1)]) hx hb dX8_blurNow_97 hl (by decide) rfl (fun ls hl => ?_)
              refine lv_iinc (v := (s1.1 + (1 : Int32))) (lv' := [(7, .int (s1.1 + (1 : Int32))), (6, .int (1 : Int32)), (4, .double o8.1), (2, .double o8.1), (0, .ref a_t), (1, .int p1)]) hx hb dX8_blurNow_99 hl (k := 3) rfl rfl (by decide) rfl (fun ls hl => ?_)
              refine lv_goto (tgt := 12) hx hb dX8_blurNow_102 (by decide) ?_
              exact ih1 ((s1.1 + (1 : Int32)), (1 : Int32), o8.1, o8.1, o8.1, o8.2.1, o8.2.2) _ _ _ hP hD hS (lv_sub hl [0, 1, 2, 3, 4, 5] rfl) h
            · replace h := ifn h q12
              refine lv_dload hx hb dX8_blurNow_78 (lv_at hl 3 rfl) ?_
              refine lv_aload_n hx hb dX8_blurNow_80 rfl (lv_at hl 4 rfl) ?_
              refine va_get (D := D) (ci := 10) (v := .double o8.1) (C := RX8) (T := TX8) (N := 14) hx hb hts mc_X8_blurNow_X8 hown hK hP 0 rfl rfl 10 (by decide) (hts _ mf_X8_blurNow_66) (fun _ h9 => h9) rfl dX8_blurNow_81 ?_
              obtain ⟨g13, h⟩ := gd_e h
              obtain ⟨g14, h⟩ := gd_e h
              refine my_max hx hb (hml.trans hl.1.symm) hown (hts _ mml_X8_blurNow_101) (hts _ mms_X8_blurNow_101) (hts _ mmi_X8_blurNow_101) (hts _ mmc_X8_blurNow_101) (Nat.le_of_ble_eq_true rfl) (Nat.le_of_ble_eq_true rfl) (Nat.zero_le _) (Nat.zero_le _) g13 g14 dX8_blurNow_84 ?_
              refine lv_goto (tgt := 94) hx hb dX8_blurNow_87 (by decide) ?_
              refine lv_dstore (lv' := [(4, .double (dmax s1.2.2.1 o8.1)), (2, .double o8.1), (7, .int s1.1), (6, .int s1.2.1), (0, .ref a_t), (1, .int p1)]) hx hb dX8_blurNow_94 hl (by decide) rfl (fun ls hl => ?_)
              refine lv_iconst (v := (1 : Int32)) hx hb dX8_blurNow_96 (by decide) ?_
              refine lv_istore (lv' := [(6, .int (1 : Int32)), (4, .double (dmax s1.2.2.1 o8.1)), (2, .double o8.1), (7, .int s1.1), (0, .ref a_t), (1, .int p1)]) hx hb dX8_blurNow_97 hl (by decide) rfl (fun ls hl => ?_)
              refine lv_iinc (v := (s1.1 + (1 : Int32))) (lv' := [(7, .int (s1.1 + (1 : Int32))), (6, .int (1 : Int32)), (4, .double (dmax s1.2.2.1 o8.1)), (2, .double o8.1), (0, .ref a_t), (1, .int p1)]) hx hb dX8_blurNow_99 hl (k := 3) rfl rfl (by decide) rfl (fun ls hl => ?_)
              refine lv_goto (tgt := 12) hx hb dX8_blurNow_102 (by decide) ?_
              exact ih1 ((s1.1 + (1 : Int32)), (1 : Int32), (dmax s1.2.2.1 o8.1), o8.1, o8.1, o8.2.1, o8.2.2) _ _ _ hP hD hS (lv_sub hl [0, 1, 2, 3, 4, 5] rfl) h
          · replace h := ifn h q11
            refine lv_dload_n hx hb dX8_blurNow_57 rfl (lv_at hl 3 rfl) ?_
            refine lv_aload_n hx hb dX8_blurNow_58 rfl (lv_at hl 4 rfl) ?_
            refine va_get (D := D) (ci := 10) (v := .double o8.1) (C := RX8) (T := TX8) (N := 14) hx hb hts mc_X8_blurNow_X8 hown hK hP 0 rfl rfl 10 (by decide) (hts _ mf_X8_blurNow_66) (fun _ h9 => h9) rfl dX8_blurNow_59 ?_
            obtain ⟨g18, h⟩ := gd_e h
            obtain ⟨g19, h⟩ := gd_e h
            refine my_min hx hb (hml.trans hl.1.symm) hown (hts _ mml_X8_blurNow_97) (hts _ mms_X8_blurNow_97) (hts _ mmi_X8_blurNow_97) (hts _ mmc_X8_blurNow_97) (Nat.le_of_ble_eq_true rfl) (Nat.le_of_ble_eq_true rfl) (Nat.zero_le _) (Nat.zero_le _) g18 g19 dX8_blurNow_62 ?_
            refine lv_goto (tgt := 72) hx hb dX8_blurNow_65 (by decide) ?_
            refine lv_dstore_n (lv' := [(2, .double (dmin s1.2.2.2.1 o8.1)), (7, .int s1.1), (6, .int s1.2.1), (4, .double s1.2.2.1), (0, .ref a_t), (1, .int p1)]) hx hb dX8_blurNow_72 rfl hl (by decide) rfl (fun ls hl => ?_)
            refine lv_iload hx hb dX8_blurNow_73 (lv_at hl 2 rfl) ?_
            refine lv_if_eq (tgt := 90) hx hb dX8_blurNow_75 (by decide) (fun q15 => ?_) (fun q15 => ?_)
            · replace h := ifp h q15
              refine lv_aload_n hx hb dX8_blurNow_90 rfl (lv_at hl 4 rfl) ?_
              refine va_get (D := D) (ci := 10) (v := .double o8.1) (C := RX8) (T := TX8) (N := 14) hx hb hts mc_X8_blurNow_X8 hown hK hP 0 rfl rfl 10 (by decide) (hts _ mf_X8_blurNow_66) (fun _ h9 => h9) rfl dX8_blurNow_91 ?_
              refine lv_dstore (lv' := [(4, .double o8.1), (2, .double (dmin s1.2.2.2.1 o8.1)), (7, .int s1.1), (6, .int s1.2.1), (0, .ref a_t), (1, .int p1)]) hx hb dX8_blurNow_94 hl (by decide) rfl (fun ls hl => ?_)
              refine lv_iconst (v := (1 : Int32)) hx hb dX8_blurNow_96 (by decide) ?_
              refine lv_istore (lv' := [(6, .int (1 : Int32)), (4, .double o8.1), (2, .double (dmin s1.2.2.2.1 o8.1)), (7, .int s1.1), (0, .ref a_t), (1, .int p1)]) hx hb dX8_blurNow_97 hl (by decide) rfl (fun ls hl => ?_)
              refine lv_iinc (v := (s1.1 + (1 : Int32))) (lv' := [(7, .int (s1.1 + (1 : Int32))), (6, .int (1 : Int32)), (4, .double o8.1), (2, .double (dmin s1.2.2.2.1 o8.1)), (0, .ref a_t), (1, .int p1)]) hx hb dX8_blurNow_99 hl (k := 3) rfl rfl (by decide) rfl (fun ls hl => ?_)
              refine lv_goto (tgt := 12) hx hb dX8_blurNow_102 (by decide) ?_
              exact ih1 ((s1.1 + (1 : Int32)), (1 : Int32), o8.1, (dmin s1.2.2.2.1 o8.1), o8.1, o8.2.1, o8.2.2) _ _ _ hP hD hS (lv_sub hl [0, 1, 2, 3, 4, 5] rfl) h
            · replace h := ifn h q15
              refine lv_dload hx hb dX8_blurNow_78 (lv_at hl 3 rfl) ?_
              refine lv_aload_n hx hb dX8_blurNow_80 rfl (lv_at hl 4 rfl) ?_
              refine va_get (D := D) (ci := 10) (v := .double o8.1) (C := RX8) (T := TX8) (N := 14) hx hb hts mc_X8_blurNow_X8 hown hK hP 0 rfl rfl 10 (by decide) (hts _ mf_X8_blurNow_66) (fun _ h9 => h9) rfl dX8_blurNow_81 ?_
              obtain ⟨g16, h⟩ := gd_e h
              obtain ⟨g17, h⟩ := gd_e h
              refine my_max hx hb (hml.trans hl.1.symm) hown (hts _ mml_X8_blurNow_101) (hts _ mms_X8_blurNow_101) (hts _ mmi_X8_blurNow_101) (hts _ mmc_X8_blurNow_101) (Nat.le_of_ble_eq_true rfl) (Nat.le_of_ble_eq_true rfl) (Nat.zero_le _) (Nat.zero_le _) g16 g17 dX8_blurNow_84 ?_
              refine lv_goto (tgt := 94) hx hb dX8_blurNow_87 (by decide) ?_
              refine lv_dstore (lv' := [(4, .double (dmax s1.2.2.1 o8.1)), (2, .double (dmin s1.2.2.2.1 o8.1)), (7, .int s1.1), (6, .int s1.2.1), (0, .ref a_t), (1, .int p1)]) hx hb dX8_blurNow_94 hl (by decide) rfl (fun ls hl => ?_)
              refine lv_iconst (v := (1 : Int32)) hx hb dX8_blurNow_96 (by decide) ?_
              refine lv_istore (lv' := [(6, .int (1 : Int32)), (4, .double (dmax s1.2.2.1 o8.1)), (2, .double (dmin s1.2.2.2.1 o8.1)), (7, .int s1.1), (0, .ref a_t), (1, .int p1)]) hx hb dX8_blurNow_97 hl (by decide) rfl (fun ls hl => ?_)
              refine lv_iinc (v := (s1.1 + (1 : Int32))) (lv' := [(7, .int (s1.1 + (1 : Int32))), (6, .int (1 : Int32)), (4, .double (dmax s1.2.2.1 o8.1)), (2, .double (dmin s1.2.2.2.1 o8.1)), (0, .ref a_t), (1, .int p1)]) hx hb dX8_blurNow_99 hl (k := 3) rfl rfl (by decide) rfl (fun ls hl => ?_)
              refine lv_goto (tgt := 12) hx hb dX8_blurNow_102 (by decide) ?_
              exact ih1 ((s1.1 + (1 : Int32)), (1 : Int32), (dmax s1.2.2.1 o8.1), (dmin s1.2.2.2.1 o8.1), o8.1, o8.2.1, o8.2.2) _ _ _ hP hD hS (lv_sub hl [0, 1, 2, 3, 4, 5] rfl) h
        · replace h := ifn h q10
          refine lv_goto (tgt := 99) hx hb dX8_blurNow_49 (by decide) ?_
          refine lv_iinc (v := (s1.1 + (1 : Int32))) (lv' := [(7, .int (s1.1 + (1 : Int32))), (6, .int s1.2.1), (4, .double s1.2.2.1), (2, .double s1.2.2.2.1), (0, .ref a_t), (1, .int p1)]) hx hb dX8_blurNow_99 hl (k := 0) rfl rfl (by decide) rfl (fun ls hl => ?_)
          refine lv_goto (tgt := 12) hx hb dX8_blurNow_102 (by decide) ?_
          exact ih1 ((s1.1 + (1 : Int32)), s1.2.1, s1.2.2.1, s1.2.2.2.1, o8.1, o8.2.1, o8.2.2) _ _ _ hP hD hS (lv_sub hl [0, 1, 2, 3, 4, 5] rfl) h
  exact LOOP1 1000 ((-10 : Int32), (0 : Int32), FP.dconst0, FP.dconst0, c_t_height, c_t_slope, c_t_cut) _ _ _ hP hD hS hl h
theorem mc_X8_refuse_X8 : ∀ w ∈ wsX80, w ∈ wsX8_refuse := by decide +kernel
theorem mf_X8_refuse_29 : Cond.fieldLink RX8 29 "LensbenchModel" "thrown" "I" ∈ wsX8_refuse := by decide +kernel
abbrev rm_X8_refuse : Room := { frames := 0, cells := 0, slots := 0, locals := 0 }
set_option maxHeartbeats 4000000 in
set_option maxRecDepth 100000 in
theorem m_X8_refuse (l : Launch) (D : va_G) (cI cD cB : ClassId) (a_t : Nat) (a_t_place : Nat) (a_t_half : Nat) (a_t_power : Nat) (a_t_glass : Nat) (p1 : Int32) (c_t_thrown : Int32) (c_t_pieces : Int32) (c_t_thing : Int32) (c_t_screen : Int32) (c_t_tall : Int32) (c_t_refused : Int32) (c_t_height : UInt64) (c_t_slope : UInt64) (c_t_cut : Int32) (c_t_sum : Int64) (R : Int32 × Int32) (h : f_X8_refuse p1 = some R) : Ci l yX8_refuse wsX8_refuse rm_X8_refuse D (TT cI cD cB) [.ref a_t, .int p1] [(a_t, .inr (10, [.int c_t_thrown, .int c_t_pieces, .ref a_t_place, .ref a_t_half, .ref a_t_power, .ref a_t_glass, .int c_t_thing, .int c_t_screen, .int c_t_tall, .int c_t_refused, .double c_t_height, .double c_t_slope, .int c_t_cut, .long c_t_sum]))] [(a_t, .inr (10, [.int R.2, .int c_t_pieces, .ref a_t_place, .ref a_t_half, .ref a_t_power, .ref a_t_glass, .int c_t_thing, .int c_t_screen, .int c_t_tall, .int c_t_refused, .double c_t_height, .double c_t_slope, .int c_t_cut, .long c_t_sum]))] R.1 0 0 := by
  unfold f_X8_refuse at h
  refine st_i (cc := cX8_refuse) (maxL := 2) (by decide) rfl (Nat.le_of_ble_eq_true rfl) (fun p e s m av below meth c A Q ls hx hb hml hts hown hA hK hNM hZ hP hD hS hl hfin => ?_)
  have hown : s.vm.findClass RX8 = some m.cls := hown
  have hl : lv_has ls 2 [(0, .ref a_t), (1, .int p1)] := hl
  refine lv_aload_n hx hb dX8_refuse_0 rfl (lv_at hl 0 rfl) ?_
  refine lv_iload_n hx hb dX8_refuse_1 rfl (lv_at hl 1 rfl) ?_
  refine va_put (D := D) (ci := 10) (v := .int p1) (ty := .int) (C := RX8) (T := TX8) (N := 14) hx hb hts mc_X8_refuse_X8 tyX8 tyX8_ok nmX8 hown hK hP hD hS 0 rfl rfl 0 (by decide) (hts _ mf_X8_refuse_29) (fun _ h9 => h9) rfl (tyX8_ok 0 (by decide)) rfl rfl (Nat.le_of_ble_eq_true rfl) dX8_refuse_2 (fun H locs hP hD hS => ?_)
  have hP : va_P D vwCl [(a_t, .inr (10, [.int p1, .int c_t_pieces, .ref a_t_place, .ref a_t_half, .ref a_t_power, .ref a_t_glass, .int c_t_thing, .int c_t_screen, .int c_t_tall, .int c_t_refused, .double c_t_height, .double c_t_slope, .int c_t_cut, .long c_t_sum]))] H := hP
  have hD : va_D A [(a_t, .inr (10, [.int p1, .int c_t_pieces, .ref a_t_place, .ref a_t_half, .ref a_t_power, .ref a_t_glass, .int c_t_thing, .int c_t_screen, .int c_t_tall, .int c_t_refused, .double c_t_height, .double c_t_slope, .int c_t_cut, .long c_t_sum]))] := hD
  refine lv_iconst (v := (0 : Int32)) hx hb dX8_refuse_5 (by decide) ?_
  rw [← some_e h] at hfin
  exact hfin 6 _ _ _ dX8_refuse_6 rfl hP hD hS
theorem mc_X8_best_X8 : ∀ w ∈ wsX80, w ∈ wsX8_best := by decide +kernel
theorem mf_X8_best_22 : Cond.fieldLink RX8 22 "LensbenchModel" "screen" "I" ∈ wsX8_best := by decide +kernel
theorem mf_X8_best_29 : Cond.fieldLink RX8 29 "LensbenchModel" "thrown" "I" ∈ wsX8_best := by decide +kernel
theorem mf_X8_best_60 : Cond.fieldLink RX8 60 "LensbenchModel" "thing" "I" ∈ wsX8_best := by decide +kernel
theorem mf_X8_best_9 : Cond.fieldLink RX8 9 "LensbenchModel" "place" "[I" ∈ wsX8_best := by decide +kernel
abbrev rm_X8_best : Room := { frames := 3, cells := 0, slots := 0, locals := 82 }
set_option maxHeartbeats 4000000 in
set_option maxRecDepth 100000 in
theorem m_X8_best (l : Launch) (D : va_G) (cI cD cB : ClassId) (a_t : Nat) (a_t_place : Nat) (a_t_half : Nat) (a_t_power : Nat) (a_t_glass : Nat) (p1 : Int32) (p2 : Int32) (c_t_thrown : Int32) (c_t_pieces : Int32) (c_t_thing : Int32) (c_t_screen : Int32) (c_t_tall : Int32) (c_t_refused : Int32) (c_t_height : UInt64) (c_t_slope : UInt64) (c_t_cut : Int32) (c_t_sum : Int64) (c_t_place : Nat → Int32) (c_t_half : Nat → Int32) (c_t_power : Nat → Int32) (c_t_glass : Nat → Int32) (R : Int32 × Int32 × UInt64 × UInt64 × Int32 × (Nat → Int32)) (h : f_X8_best p1 p2 c_t_pieces c_t_thing c_t_screen c_t_tall c_t_height c_t_slope c_t_cut c_t_place c_t_half c_t_power c_t_glass = some R) : Ci l yX8_best wsX8_best rm_X8_best D (TT cI cD cB) [.ref a_t, .int p1, .int p2] [(a_t, .inr (10, [.int c_t_thrown, .int c_t_pieces, .ref a_t_place, .ref a_t_half, .ref a_t_power, .ref a_t_glass, .int c_t_thing, .int c_t_screen, .int c_t_tall, .int c_t_refused, .double c_t_height, .double c_t_slope, .int c_t_cut, .long c_t_sum])), (a_t_place, .inl (cI, 8, .inl c_t_place)), (a_t_half, .inl (cI, 8, .inl c_t_half)), (a_t_power, .inl (cI, 8, .inl c_t_power)), (a_t_glass, .inl (cI, 8, .inl c_t_glass))] [(a_t, .inr (10, [.int R.2.1, .int c_t_pieces, .ref a_t_place, .ref a_t_half, .ref a_t_power, .ref a_t_glass, .int c_t_thing, .int c_t_screen, .int c_t_tall, .int c_t_refused, .double R.2.2.1, .double R.2.2.2.1, .int R.2.2.2.2.1, .long c_t_sum])), (a_t_place, .inl (cI, 8, .inl R.2.2.2.2.2)), (a_t_half, .inl (cI, 8, .inl c_t_half)), (a_t_power, .inl (cI, 8, .inl c_t_power)), (a_t_glass, .inl (cI, 8, .inl c_t_glass))] R.1 0 0 := by
  unfold f_X8_best at h
  refine st_i (cc := cX8_best) (maxL := 11) (by decide) rfl (Nat.le_of_ble_eq_true rfl) (fun p e s m av below meth c A Q ls hx hb hml hts hown hA hK hNM hZ hP hD hS hl hfin => ?_)
  have hown : s.vm.findClass RX8 = some m.cls := hown
  have hl : lv_has ls 11 [(0, .ref a_t), (1, .int p1), (2, .int p2)] := hl
  refine lv_aload_n hx hb dX8_best_0 rfl (lv_at hl 0 rfl) ?_
  refine lv_iconst (v := (0 : Int32)) hx hb dX8_best_1 (by decide) ?_
  refine va_put (D := D) (ci := 10) (v := .int (0 : Int32)) (ty := .int) (C := RX8) (T := TX8) (N := 14) hx hb hts mc_X8_best_X8 tyX8 tyX8_ok nmX8 hown hK hP hD hS 0 rfl rfl 0 (by decide) (hts _ mf_X8_best_29) (fun _ h9 => h9) rfl (tyX8_ok 0 (by decide)) rfl rfl (Nat.le_of_ble_eq_true rfl) dX8_best_2 (fun H locs hP hD hS => ?_)
  have hP : va_P D vwCl [(a_t, .inr (10, [.int (0 : Int32), .int c_t_pieces, .ref a_t_place, .ref a_t_half, .ref a_t_power, .ref a_t_glass, .int c_t_thing, .int c_t_screen, .int c_t_tall, .int c_t_refused, .double c_t_height, .double c_t_slope, .int c_t_cut, .long c_t_sum])), (a_t_place, .inl (cI, 8, .inl c_t_place)), (a_t_half, .inl (cI, 8, .inl c_t_half)), (a_t_power, .inl (cI, 8, .inl c_t_power)), (a_t_glass, .inl (cI, 8, .inl c_t_glass))] H := hP
  have hD : va_D A [(a_t, .inr (10, [.int (0 : Int32), .int c_t_pieces, .ref a_t_place, .ref a_t_half, .ref a_t_power, .ref a_t_glass, .int c_t_thing, .int c_t_screen, .int c_t_tall, .int c_t_refused, .double c_t_height, .double c_t_slope, .int c_t_cut, .long c_t_sum])), (a_t_place, .inl (cI, 8, .inl c_t_place)), (a_t_half, .inl (cI, 8, .inl c_t_half)), (a_t_power, .inl (cI, 8, .inl c_t_power)), (a_t_glass, .inl (cI, 8, .inl c_t_glass))] := hD
  refine lv_aload_n hx hb dX8_best_5 rfl (lv_at hl 0 rfl) ?_
  refine lv_iload_n hx hb dX8_best_6 rfl (lv_at hl 1 rfl) ?_
  obtain ⟨o1, e2, h⟩ := bd_e h
  refine co_i (W0 := [(a_t, .inr (10, [.int (0 : Int32), .int c_t_pieces, .ref a_t_place, .ref a_t_half, .ref a_t_power, .ref a_t_glass, .int c_t_thing, .int c_t_screen, .int c_t_tall, .int c_t_refused, .double c_t_height, .double c_t_slope, .int c_t_cut, .long c_t_sum]))]) (wr := [(a_t_place, .inl (cI, 8, .inl c_t_place)), (a_t_half, .inl (cI, 8, .inl c_t_half)), (a_t_power, .inl (cI, 8, .inl c_t_power)), (a_t_glass, .inl (cI, 8, .inl c_t_glass))]) (W1 := [(a_t, .inr (10, [.int (0 : Int32), .int c_t_pieces, .ref a_t_place, .ref a_t_half, .ref a_t_power, .ref a_t_glass, .int c_t_thing, .int c_t_screen, .int c_t_tall, .int c_t_refused, .double c_t_height, .double c_t_slope, .int c_t_cut, .long c_t_sum]))]) (ws2 := [(a_t, .inr (10, [.int (0 : Int32), .int c_t_pieces, .ref a_t_place, .ref a_t_half, .ref a_t_power, .ref a_t_glass, .int c_t_thing, .int c_t_screen, .int c_t_tall, .int c_t_refused, .double c_t_height, .double c_t_slope, .int c_t_cut, .long c_t_sum])), (a_t_place, .inl (cI, 8, .inl c_t_place)), (a_t_half, .inl (cI, 8, .inl c_t_half)), (a_t_power, .inl (cI, 8, .inl c_t_power)), (a_t_glass, .inl (cI, 8, .inl c_t_glass))]) (va_runV (C := RX8) (As := [.int p1]) (rest := []) ⟨hx, hb, hml, hown, hts⟩ (m_X8_isPiece l D cI cD cB a_t a_t_place a_t_half a_t_power a_t_glass p1 (0 : Int32) c_t_pieces c_t_thing c_t_screen c_t_tall c_t_refused c_t_height c_t_slope c_t_cut c_t_sum o1 e2 _) (cwV 1 hts gX8_best_X8_isPiece rfl rfl rfl (by decide +kernel) ⟨Nat.le_of_ble_eq_true rfl, Nat.le_of_ble_eq_true rfl⟩) (my_preV (q := (RX8, TX8, 14)) (ci := 10) (q0 := 0) [0] hP hK hNM hZ hD hS hA rfl rfl rfl rfl) rfl rfl hl.1 rfl (lv_room (Nat.le_of_ble_eq_true rfl)) dX8_best_7 ⟨Nat.zero_le _, Nat.zero_le _⟩) hP hD hS hA [0] [1, 2, 3, 4] [4, 0, 1, 2, 3] rfl rfl rfl rfl rfl (by decide) (fun H locs hP hD hS => ?_)
  refine lv_if_ne (tgt := 19) hx hb dX8_best_10 (by decide) (fun q3 => ?_) (fun q3 => ?_)
  · replace h := ifn h q3
    refine lv_iload_n hx hb dX8_best_19 rfl (lv_at hl 2 rfl) ?_
    refine lv_iconst (v := (0 : Int32)) hx hb dX8_best_20 (by decide) ?_
    refine lv_iconst (v := (2 : Int32)) hx hb dX8_best_21 (by decide) ?_
    obtain ⟨o4, e5, h⟩ := bd_e h
    refine co_i (W0 := []) (wr := [(a_t, .inr (10, [.int (0 : Int32), .int c_t_pieces, .ref a_t_place, .ref a_t_half, .ref a_t_power, .ref a_t_glass, .int c_t_thing, .int c_t_screen, .int c_t_tall, .int c_t_refused, .double c_t_height, .double c_t_slope, .int c_t_cut, .long c_t_sum])), (a_t_place, .inl (cI, 8, .inl c_t_place)), (a_t_half, .inl (cI, 8, .inl c_t_half)), (a_t_power, .inl (cI, 8, .inl c_t_power)), (a_t_glass, .inl (cI, 8, .inl c_t_glass))]) (W1 := []) (ws2 := [(a_t, .inr (10, [.int (0 : Int32), .int c_t_pieces, .ref a_t_place, .ref a_t_half, .ref a_t_power, .ref a_t_glass, .int c_t_thing, .int c_t_screen, .int c_t_tall, .int c_t_refused, .double c_t_height, .double c_t_slope, .int c_t_cut, .long c_t_sum])), (a_t_place, .inl (cI, 8, .inl c_t_place)), (a_t_half, .inl (cI, 8, .inl c_t_half)), (a_t_power, .inl (cI, 8, .inl c_t_power)), (a_t_glass, .inl (cI, 8, .inl c_t_glass))]) (va_runS (As := [.int p2, .int (0 : Int32), .int (2 : Int32)]) (rest := []) ⟨hx, hb, hml, hown, hts⟩ (m_X8_is l D cI cD cB p2 (0 : Int32) (2 : Int32) o4 e5 _) (va_cwS 3 hts gX8_best_X8_is rfl rfl rfl (by decide +kernel) ⟨Nat.le_of_ble_eq_true rfl, Nat.le_of_ble_eq_true rfl⟩) (my_preS [] hP hK hNM hZ hD hS hA rfl rfl) rfl rfl hl.1 rfl (lv_room (Nat.le_of_ble_eq_true rfl)) dX8_best_22 ⟨Nat.zero_le _, Nat.zero_le _⟩) hP hD hS hA [] [0, 1, 2, 3, 4] [0, 1, 2, 3, 4] rfl rfl rfl rfl rfl (by decide) (fun H locs hP hD hS => ?_)
    refine lv_if_ne (tgt := 34) hx hb dX8_best_25 (by decide) (fun q6 => ?_) (fun q6 => ?_)
    · replace h := ifn h q6
      refine lv_aload_n hx hb dX8_best_34 rfl (lv_at hl 0 rfl) ?_
      refine va_get (D := D) (ci := 10) (v := .ref a_t_place) (C := RX8) (T := TX8) (N := 14) hx hb hts mc_X8_best_X8 hown hK hP 0 rfl rfl 2 (by decide) (hts _ mf_X8_best_9) (fun _ h9 => h9) rfl dX8_best_35 ?_
      refine lv_iload_n hx hb dX8_best_38 rfl (lv_at hl 1 rfl) ?_
      obtain ⟨g7, h⟩ := gd_e h
      refine va_iald hx hb hK hP 1 0 rfl rfl (vin_in g7) dX8_best_39 ?_
      refine lv_istore_n (lv' := [(3, .int (c_t_place (p1).toNatClampNeg)), (0, .ref a_t), (1, .int p1), (2, .int p2)]) hx hb dX8_best_40 rfl hl (by decide) rfl (fun ls hl => ?_)
      refine lv_iconst (v := (-1 : Int32)) hx hb dX8_best_41 (by decide) ?_
      refine lv_istore (lv' := [(4, .int (-1 : Int32)), (3, .int (c_t_place (p1).toNatClampNeg)), (0, .ref a_t), (1, .int p1), (2, .int p2)]) hx hb dX8_best_42 hl (by decide) rfl (fun ls hl => ?_)
      refine lv_dconst0 hx hb dX8_best_44 ?_
      refine lv_dstore (lv' := [(5, .double FP.dconst0), (4, .int (-1 : Int32)), (3, .int (c_t_place (p1).toNatClampNeg)), (0, .ref a_t), (1, .int p1), (2, .int p2)]) hx hb dX8_best_45 hl (by decide) rfl (fun ls hl => ?_)
      refine lv_aload_n hx hb dX8_best_47 rfl (lv_at hl 3 rfl) ?_
      refine va_get (D := D) (ci := 10) (v := .int c_t_thing) (C := RX8) (T := TX8) (N := 14) hx hb hts mc_X8_best_X8 hown hK hP 0 rfl rfl 6 (by decide) (hts _ mf_X8_best_60) (fun _ h9 => h9) rfl dX8_best_48 ?_
      refine lv_iconst (v := (1 : Int32)) hx hb dX8_best_51 (by decide) ?_
      refine lv_iadd hx hb dX8_best_52 ?_
      refine lv_istore (lv' := [(7, .int (c_t_thing + (1 : Int32))), (5, .double FP.dconst0), (4, .int (-1 : Int32)), (3, .int (c_t_place (p1).toNatClampNeg)), (0, .ref a_t), (1, .int p1), (2, .int p2)]) hx hb dX8_best_53 hl (by decide) rfl (fun ls hl => ?_)
      have LOOP1 : ∀ (n1 : Nat) (s1 : Int32 × UInt64 × Int32 × UInt64 × UInt64 × Int32 × (Nat → Int32)) (H : Heap) (locs : List Loc) (ls : Array Slot), va_P D vwCl [(a_t, .inr (10, [.int (0 : Int32), .int c_t_pieces, .ref a_t_place, .ref a_t_half, .ref a_t_power, .ref a_t_glass, .int c_t_thing, .int c_t_screen, .int c_t_tall, .int c_t_refused, .double s1.2.2.2.1, .double s1.2.2.2.2.1, .int s1.2.2.2.2.2.1, .long c_t_sum])), (a_t_place, .inl (cI, 8, .inl s1.2.2.2.2.2.2)), (a_t_half, .inl (cI, 8, .inl c_t_half)), (a_t_power, .inl (cI, 8, .inl c_t_power)), (a_t_glass, .inl (cI, 8, .inl c_t_glass))] H → va_D A [(a_t, .inr (10, [.int (0 : Int32), .int c_t_pieces, .ref a_t_place, .ref a_t_half, .ref a_t_power, .ref a_t_glass, .int c_t_thing, .int c_t_screen, .int c_t_tall, .int c_t_refused, .double s1.2.2.2.1, .double s1.2.2.2.2.1, .int s1.2.2.2.2.2.1, .long c_t_sum])), (a_t_place, .inl (cI, 8, .inl s1.2.2.2.2.2.2)), (a_t_half, .inl (cI, 8, .inl c_t_half)), (a_t_power, .inl (cI, 8, .inl c_t_power)), (a_t_glass, .inl (cI, 8, .inl c_t_glass))] → va_S A s.heap H locs → lv_has ls 11 [(7, .int s1.1), (5, .double s1.2.1), (4, .int s1.2.2.1), (3, .int (c_t_place (p1).toNatClampNeg)), (0, .ref a_t), (1, .int p1), (2, .int p2)] → lp (f_X8_best_b1 p1 p2 c_t_pieces c_t_thing c_t_screen c_t_tall c_t_place c_t_half c_t_power c_t_glass) n1 s1 = some R → W p l e rm_X8_best s m av below meth c H locs 0 0 Q (F0 m 55 ls []) := by
        intro n1
        induction n1 with
        | zero => intro s1 H locs ls hP hD hS hl h; exact lp_0 h
        | succ n1 ih1 =>
          intro s1 H locs ls hP hD hS hl h
          replace h := lp_s h
          unfold f_X8_best_b1 at h
          refine lv_iload hx hb dX8_best_55 (lv_at hl 0 rfl) ?_
          refine lv_aload_n hx hb dX8_best_57 rfl (lv_at hl 4 rfl) ?_
          refine va_get (D := D) (ci := 10) (v := .int c_t_screen) (C := RX8) (T := TX8) (N := 14) hx hb hts mc_X8_best_X8 hown hK hP 0 rfl rfl 7 (by decide) (hts _ mf_X8_best_22) (fun _ h9 => h9) rfl dX8_best_58 ?_
          refine lv_icmp_ge (tgt := 140) hx hb dX8_best_61 (by decide) (fun q8 => ?_) (fun q8 => ?_)
          · replace h := ifp h q8
            refine lv_aload_n hx hb dX8_best_140 rfl (lv_at hl 4 rfl) ?_
            refine va_get (D := D) (ci := 10) (v := .ref a_t_place) (C := RX8) (T := TX8) (N := 14) hx hb hts mc_X8_best_X8 hown hK hP 0 rfl rfl 2 (by decide) (hts _ mf_X8_best_9) (fun _ h9 => h9) rfl dX8_best_141 ?_
            refine lv_iload_n hx hb dX8_best_144 rfl (lv_at hl 5 rfl) ?_
            refine lv_iload_n hx hb dX8_best_145 rfl (lv_at hl 3 rfl) ?_
            obtain ⟨g9, h⟩ := gd_e h
            refine va_iast hx hb hK hP hD hS 1 0 rfl rfl (vin_in g9) dX8_best_146 (fun H locs hP hD hS => ?_)
            have hP : va_P D vwCl [(a_t, .inr (10, [.int (0 : Int32), .int c_t_pieces, .ref a_t_place, .ref a_t_half, .ref a_t_power, .ref a_t_glass, .int c_t_thing, .int c_t_screen, .int c_t_tall, .int c_t_refused, .double s1.2.2.2.1, .double s1.2.2.2.2.1, .int s1.2.2.2.2.2.1, .long c_t_sum])), (a_t_place, .inl (cI, 8, .inl (upd s1.2.2.2.2.2.2 (p1).toNatClampNeg (c_t_place (p1).toNatClampNeg)))), (a_t_half, .inl (cI, 8, .inl c_t_half)), (a_t_power, .inl (cI, 8, .inl c_t_power)), (a_t_glass, .inl (cI, 8, .inl c_t_glass))] H := hP
            have hD : va_D A [(a_t, .inr (10, [.int (0 : Int32), .int c_t_pieces, .ref a_t_place, .ref a_t_half, .ref a_t_power, .ref a_t_glass, .int c_t_thing, .int c_t_screen, .int c_t_tall, .int c_t_refused, .double s1.2.2.2.1, .double s1.2.2.2.2.1, .int s1.2.2.2.2.2.1, .long c_t_sum])), (a_t_place, .inl (cI, 8, .inl (upd s1.2.2.2.2.2.2 (p1).toNatClampNeg (c_t_place (p1).toNatClampNeg)))), (a_t_half, .inl (cI, 8, .inl c_t_half)), (a_t_power, .inl (cI, 8, .inl c_t_power)), (a_t_glass, .inl (cI, 8, .inl c_t_glass))] := hD
            refine lv_iload hx hb dX8_best_147 (lv_at hl 2 rfl) ?_
            rw [← some_e h] at hfin
            exact hfin 149 _ _ _ dX8_best_149 rfl hP hD hS
          · replace h := ifn h q8
            refine lv_aload_n hx hb dX8_best_64 rfl (lv_at hl 4 rfl) ?_
            refine lv_iload hx hb dX8_best_65 (lv_at hl 0 rfl) ?_
            obtain ⟨o10, e11, h⟩ := bd_e h
            refine co_i (W0 := [(a_t, .inr (10, [.int (0 : Int32), .int c_t_pieces, .ref a_t_place, .ref a_t_half, .ref a_t_power, .ref a_t_glass, .int c_t_thing, .int c_t_screen, .int c_t_tall, .int c_t_refused, .double s1.2.2.2.1, .double s1.2.2.2.2.1, .int s1.2.2.2.2.2.1, .long c_t_sum])), (a_t_place, .inl (cI, 8, .inl s1.2.2.2.2.2.2))]) (wr := [(a_t_half, .inl (cI, 8, .inl c_t_half)), (a_t_power, .inl (cI, 8, .inl c_t_power)), (a_t_glass, .inl (cI, 8, .inl c_t_glass))]) (W1 := [(a_t, .inr (10, [.int (0 : Int32), .int c_t_pieces, .ref a_t_place, .ref a_t_half, .ref a_t_power, .ref a_t_glass, .int c_t_thing, .int c_t_screen, .int c_t_tall, .int c_t_refused, .double s1.2.2.2.1, .double s1.2.2.2.2.1, .int s1.2.2.2.2.2.1, .long c_t_sum])), (a_t_place, .inl (cI, 8, .inl s1.2.2.2.2.2.2))]) (ws2 := [(a_t, .inr (10, [.int (0 : Int32), .int c_t_pieces, .ref a_t_place, .ref a_t_half, .ref a_t_power, .ref a_t_glass, .int c_t_thing, .int c_t_screen, .int c_t_tall, .int c_t_refused, .double s1.2.2.2.1, .double s1.2.2.2.2.1, .int s1.2.2.2.2.2.1, .long c_t_sum])), (a_t_place, .inl (cI, 8, .inl s1.2.2.2.2.2.2)), (a_t_half, .inl (cI, 8, .inl c_t_half)), (a_t_power, .inl (cI, 8, .inl c_t_power)), (a_t_glass, .inl (cI, 8, .inl c_t_glass))]) (va_runV (C := RX8) (As := [.int s1.1]) (rest := []) ⟨hx, hb, hml, hown, hts⟩ (m_X8_at l D cI cD cB a_t a_t_place a_t_half a_t_power a_t_glass s1.1 (0 : Int32) c_t_pieces c_t_thing c_t_screen c_t_tall c_t_refused s1.2.2.2.1 s1.2.2.2.2.1 s1.2.2.2.2.2.1 c_t_sum s1.2.2.2.2.2.2 o10 e11 _) (cwV 1 hts gX8_best_X8_at rfl rfl rfl (by decide +kernel) ⟨Nat.le_of_ble_eq_true rfl, Nat.le_of_ble_eq_true rfl⟩) (my_preV (q := (RX8, TX8, 14)) (ci := 10) (q0 := 0) [0, 1] hP hK hNM hZ hD hS hA rfl rfl rfl rfl) rfl rfl hl.1 rfl (lv_room (Nat.le_of_ble_eq_true rfl)) dX8_best_67 ⟨Nat.zero_le _, Nat.zero_le _⟩) hP hD hS hA [0, 1] [2, 3, 4] [3, 4, 0, 1, 2] rfl rfl rfl rfl rfl (by decide) (fun H locs hP hD hS => ?_)
            refine lv_istore (lv' := [(8, .int o10), (7, .int s1.1), (5, .double s1.2.1), (4, .int s1.2.2.1), (3, .int (c_t_place (p1).toNatClampNeg)), (0, .ref a_t), (1, .int p1), (2, .int p2)]) hx hb dX8_best_70 hl (by decide) rfl (fun ls hl => ?_)
            refine lv_iload hx hb dX8_best_72 (lv_at hl 0 rfl) ?_
            refine lv_iconst (v := (-1 : Int32)) hx hb dX8_best_74 (by decide) ?_
            refine lv_icmp_eq (tgt := 87) hx hb dX8_best_75 (by decide) (fun q12 => ?_) (fun q12 => ?_)
            · replace h := ifp h q12
              refine lv_aload_n hx hb dX8_best_87 rfl (lv_at hl 5 rfl) ?_
              refine va_get (D := D) (ci := 10) (v := .ref a_t_place) (C := RX8) (T := TX8) (N := 14) hx hb hts mc_X8_best_X8 hown hK hP 0 rfl rfl 2 (by decide) (hts _ mf_X8_best_9) (fun _ h9 => h9) rfl dX8_best_88 ?_
              refine lv_iload_n hx hb dX8_best_91 rfl (lv_at hl 6 rfl) ?_
              refine lv_iload hx hb dX8_best_92 (lv_at hl 1 rfl) ?_
              obtain ⟨g13, h⟩ := gd_e h
              refine va_iast hx hb hK hP hD hS 1 0 rfl rfl (vin_in g13) dX8_best_94 (fun H locs hP hD hS => ?_)
              have hP : va_P D vwCl [(a_t, .inr (10, [.int (0 : Int32), .int c_t_pieces, .ref a_t_place, .ref a_t_half, .ref a_t_power, .ref a_t_glass, .int c_t_thing, .int c_t_screen, .int c_t_tall, .int c_t_refused, .double s1.2.2.2.1, .double s1.2.2.2.2.1, .int s1.2.2.2.2.2.1, .long c_t_sum])), (a_t_place, .inl (cI, 8, .inl (upd s1.2.2.2.2.2.2 (p1).toNatClampNeg s1.1))), (a_t_half, .inl (cI, 8, .inl c_t_half)), (a_t_power, .inl (cI, 8, .inl c_t_power)), (a_t_glass, .inl (cI, 8, .inl c_t_glass))] H := hP
              have hD : va_D A [(a_t, .inr (10, [.int (0 : Int32), .int c_t_pieces, .ref a_t_place, .ref a_t_half, .ref a_t_power, .ref a_t_glass, .int c_t_thing, .int c_t_screen, .int c_t_tall, .int c_t_refused, .double s1.2.2.2.1, .double s1.2.2.2.2.1, .int s1.2.2.2.2.2.1, .long c_t_sum])), (a_t_place, .inl (cI, 8, .inl (upd s1.2.2.2.2.2.2 (p1).toNatClampNeg s1.1))), (a_t_half, .inl (cI, 8, .inl c_t_half)), (a_t_power, .inl (cI, 8, .inl c_t_power)), (a_t_glass, .inl (cI, 8, .inl c_t_glass))] := hD
              refine lv_aload_n hx hb dX8_best_95 rfl (lv_at hl 5 rfl) ?_
              refine lv_iload_n hx hb dX8_best_96 rfl (lv_at hl 7 rfl) ?_
              obtain ⟨o14, e15, h⟩ := bd_e h
              refine co_d (W0 := [(a_t, .inr (10, [.int (0 : Int32), .int c_t_pieces, .ref a_t_place, .ref a_t_half, .ref a_t_power, .ref a_t_glass, .int c_t_thing, .int c_t_screen, .int c_t_tall, .int c_t_refused, .double s1.2.2.2.1, .double s1.2.2.2.2.1, .int s1.2.2.2.2.2.1, .long c_t_sum])), (a_t_place, .inl (cI, 8, .inl (upd s1.2.2.2.2.2.2 (p1).toNatClampNeg s1.1))), (a_t_half, .inl (cI, 8, .inl c_t_half)), (a_t_power, .inl (cI, 8, .inl c_t_power)), (a_t_glass, .inl (cI, 8, .inl c_t_glass))]) (wr := []) (W1 := [(a_t, .inr (10, [.int (0 : Int32), .int c_t_pieces, .ref a_t_place, .ref a_t_half, .ref a_t_power, .ref a_t_glass, .int c_t_thing, .int c_t_screen, .int c_t_tall, .int c_t_refused, .double o14.2.1, .double o14.2.2.1, .int o14.2.2.2, .long c_t_sum])), (a_t_place, .inl (cI, 8, .inl (upd s1.2.2.2.2.2.2 (p1).toNatClampNeg s1.1))), (a_t_half, .inl (cI, 8, .inl c_t_half)), (a_t_power, .inl (cI, 8, .inl c_t_power)), (a_t_glass, .inl (cI, 8, .inl c_t_glass))]) (ws2 := [(a_t, .inr (10, [.int (0 : Int32), .int c_t_pieces, .ref a_t_place, .ref a_t_half, .ref a_t_power, .ref a_t_glass, .int c_t_thing, .int c_t_screen, .int c_t_tall, .int c_t_refused, .double o14.2.1, .double o14.2.2.1, .int o14.2.2.2, .long c_t_sum])), (a_t_place, .inl (cI, 8, .inl (upd s1.2.2.2.2.2.2 (p1).toNatClampNeg s1.1))), (a_t_half, .inl (cI, 8, .inl c_t_half)), (a_t_power, .inl (cI, 8, .inl c_t_power)), (a_t_glass, .inl (cI, 8, .inl c_t_glass))]) (va_runV (C := RX8) (As := [.int p2]) (rest := []) ⟨hx, hb, hml, hown, hts⟩ (m_X8_blurNow l D cI cD cB a_t a_t_place a_t_half a_t_power a_t_glass p2 (0 : Int32) c_t_pieces c_t_thing c_t_screen c_t_tall c_t_refused s1.2.2.2.1 s1.2.2.2.2.1 s1.2.2.2.2.2.1 c_t_sum (upd s1.2.2.2.2.2.2 (p1).toNatClampNeg s1.1) c_t_half c_t_power c_t_glass o14 e15 _) (cwV 1 hts gX8_best_X8_blurNow rfl rfl rfl (by decide +kernel) ⟨Nat.le_of_ble_eq_true rfl, Nat.le_of_ble_eq_true rfl⟩) (my_preV (q := (RX8, TX8, 14)) (ci := 10) (q0 := 0) [0, 1, 2, 3, 4] hP hK hNM hZ hD hS hA rfl rfl rfl rfl) rfl rfl hl.1 rfl (lv_room (Nat.le_of_ble_eq_true rfl)) dX8_best_97 ⟨Nat.zero_le _, Nat.zero_le _⟩) hP hD hS hA [0, 1, 2, 3, 4] [] [0, 1, 2, 3, 4] rfl rfl rfl rfl rfl (by decide) (fun H locs hP hD hS => ?_)
              refine lv_dstore (lv' := [(9, .double o14.1), (8, .int o10), (7, .int s1.1), (5, .double s1.2.1), (4, .int s1.2.2.1), (3, .int (c_t_place (p1).toNatClampNeg)), (0, .ref a_t), (1, .int p1), (2, .int p2)]) hx hb dX8_best_100 hl (by decide) rfl (fun ls hl => ?_)
              refine lv_dload hx hb dX8_best_102 (lv_at hl 0 rfl) ?_
              refine lv_dconst0 hx hb dX8_best_104 ?_
              refine lv_dcmp hx hb dX8_best_105 ?_
              refine lv_if_lt (tgt := 134) hx hb dX8_best_106 (by decide) (fun q16 => ?_) (fun q16 => ?_)
              · replace h := ifp h q16
                refine lv_iinc (v := (s1.1 + (1 : Int32))) (lv' := [(7, .int (s1.1 + (1 : Int32))), (9, .double o14.1), (8, .int o10), (5, .double s1.2.1), (4, .int s1.2.2.1), (3, .int (c_t_place (p1).toNatClampNeg)), (0, .ref a_t), (1, .int p1), (2, .int p2)]) hx hb dX8_best_134 hl (k := 2) rfl rfl (by decide) rfl (fun ls hl => ?_)
                refine lv_goto (tgt := 55) hx hb dX8_best_137 (by decide) ?_
                exact ih1 ((s1.1 + (1 : Int32)), s1.2.1, s1.2.2.1, o14.2.1, o14.2.2.1, o14.2.2.2, (upd s1.2.2.2.2.2.2 (p1).toNatClampNeg s1.1)) _ _ _ hP hD hS (lv_sub hl [0, 3, 4, 5, 6, 7, 8] rfl) h
              · replace h := ifn h q16
                refine lv_iload hx hb dX8_best_109 (lv_at hl 4 rfl) ?_
                refine lv_iconst (v := (-1 : Int32)) hx hb dX8_best_111 (by decide) ?_
                refine lv_icmp_eq (tgt := 126) hx hb dX8_best_112 (by decide) (fun q17 => ?_) (fun q17 => ?_)
                · replace h := ifp h q17
                  refine lv_iload hx hb dX8_best_126 (lv_at hl 2 rfl) ?_
                  refine lv_istore (lv' := [(4, .int s1.1), (9, .double o14.1), (8, .int o10), (7, .int s1.1), (5, .double s1.2.1), (3, .int (c_t_place (p1).toNatClampNeg)), (0, .ref a_t), (1, .int p1), (2, .int p2)]) hx hb dX8_best_128 hl (by decide) rfl (fun ls hl => ?_)
                  refine lv_dload hx hb dX8_best_130 (lv_at hl 1 rfl) ?_
                  refine lv_dstore (lv' := [(5, .double o14.1), (4, .int s1.1), (9, .double o14.1), (8, .int o10), (7, .int s1.1), (3, .int (c_t_place (p1).toNatClampNeg)), (0, .ref a_t), (1, .int p1), (2, .int p2)]) hx hb dX8_best_132 hl (by decide) rfl (fun ls hl => ?_)
                  refine lv_iinc (v := (s1.1 + (1 : Int32))) (lv' := [(7, .int (s1.1 + (1 : Int32))), (5, .double o14.1), (4, .int s1.1), (9, .double o14.1), (8, .int o10), (3, .int (c_t_place (p1).toNatClampNeg)), (0, .ref a_t), (1, .int p1), (2, .int p2)]) hx hb dX8_best_134 hl (k := 4) rfl rfl (by decide) rfl (fun ls hl => ?_)
                  refine lv_goto (tgt := 55) hx hb dX8_best_137 (by decide) ?_
                  exact ih1 ((s1.1 + (1 : Int32)), o14.1, s1.1, o14.2.1, o14.2.2.1, o14.2.2.2, (upd s1.2.2.2.2.2.2 (p1).toNatClampNeg s1.1)) _ _ _ hP hD hS (lv_sub hl [0, 1, 2, 5, 6, 7, 8] rfl) h
                · replace h := ifn h q17
                  refine lv_dload hx hb dX8_best_115 (lv_at hl 0 rfl) ?_
                  refine lv_dload hx hb dX8_best_117 (lv_at hl 3 rfl) ?_
                  refine lv_dcmp hx hb dX8_best_119 ?_
                  refine lv_if_lt (tgt := 126) hx hb dX8_best_120 (by decide) (fun q18 => ?_) (fun q18 => ?_)
                  · replace h := ifp h q18
                    refine lv_iload hx hb dX8_best_126 (lv_at hl 2 rfl) ?_
                    refine lv_istore (lv' := [(4, .int s1.1), (9, .double o14.1), (8, .int o10), (7, .int s1.1), (5, .double s1.2.1), (3, .int (c_t_place (p1).toNatClampNeg)), (0, .ref a_t), (1, .int p1), (2, .int p2)]) hx hb dX8_best_128 hl (by decide) rfl (fun ls hl => ?_)
                    refine lv_dload hx hb dX8_best_130 (lv_at hl 1 rfl) ?_
                    refine lv_dstore (lv' := [(5, .double o14.1), (4, .int s1.1), (9, .double o14.1), (8, .int o10), (7, .int s1.1), (3, .int (c_t_place (p1).toNatClampNeg)), (0, .ref a_t), (1, .int p1), (2, .int p2)]) hx hb dX8_best_132 hl (by decide) rfl (fun ls hl => ?_)
                    refine lv_iinc (v := (s1.1 + (1 : Int32))) (lv' := [(7, .int (s1.1 + (1 : Int32))), (5, .double o14.1), (4, .int s1.1), (9, .double o14.1), (8, .int o10), (3, .int (c_t_place (p1).toNatClampNeg)), (0, .ref a_t), (1, .int p1), (2, .int p2)]) hx hb dX8_best_134 hl (k := 4) rfl rfl (by decide) rfl (fun ls hl => ?_)
                    refine lv_goto (tgt := 55) hx hb dX8_best_137 (by decide) ?_
                    exact ih1 ((s1.1 + (1 : Int32)), o14.1, s1.1, o14.2.1, o14.2.2.1, o14.2.2.2, (upd s1.2.2.2.2.2.2 (p1).toNatClampNeg s1.1)) _ _ _ hP hD hS (lv_sub hl [0, 1, 2, 5, 6, 7, 8] rfl) h
                  · replace h := ifn h q18
                    refine lv_goto (tgt := 134) hx hb dX8_best_123 (by decide) ?_
                    refine lv_iinc (v := (s1.1 + (1 : Int32))) (lv' := [(7, .int (s1.1 + (1 : Int32))), (9, .double o14.1), (8, .int o10), (5, .double s1.2.1), (4, .int s1.2.2.1), (3, .int (c_t_place (p1).toNatClampNeg)), (0, .ref a_t), (1, .int p1), (2, .int p2)]) hx hb dX8_best_134 hl (k := 2) rfl rfl (by decide) rfl (fun ls hl => ?_)
                    refine lv_goto (tgt := 55) hx hb dX8_best_137 (by decide) ?_
                    exact ih1 ((s1.1 + (1 : Int32)), s1.2.1, s1.2.2.1, o14.2.1, o14.2.2.1, o14.2.2.2, (upd s1.2.2.2.2.2.2 (p1).toNatClampNeg s1.1)) _ _ _ hP hD hS (lv_sub hl [0, 3, 4, 5, 6, 7, 8] rfl) h
            · replace h := ifn h q12
              refine lv_iload hx hb dX8_best_78 (lv_at hl 0 rfl) ?_
              refine lv_iload_n hx hb dX8_best_80 rfl (lv_at hl 6 rfl) ?_
              refine lv_icmp_eq (tgt := 87) hx hb dX8_best_81 (by decide) (fun q19 => ?_) (fun q19 => ?_)
              · replace h := ifp h q19
                refine lv_aload_n hx hb dX8_best_87 rfl (lv_at hl 5 rfl) ?_
                refine va_get (D := D) (ci := 10) (v := .ref a_t_place) (C := RX8) (T := TX8) (N := 14) hx hb hts mc_X8_best_X8 hown hK hP 0 rfl rfl 2 (by decide) (hts _ mf_X8_best_9) (fun _ h9 => h9) rfl dX8_best_88 ?_
                refine lv_iload_n hx hb dX8_best_91 rfl (lv_at hl 6 rfl) ?_
                refine lv_iload hx hb dX8_best_92 (lv_at hl 1 rfl) ?_
                obtain ⟨g20, h⟩ := gd_e h
                refine va_iast hx hb hK hP hD hS 1 0 rfl rfl (vin_in g20) dX8_best_94 (fun H locs hP hD hS => ?_)
                have hP : va_P D vwCl [(a_t, .inr (10, [.int (0 : Int32), .int c_t_pieces, .ref a_t_place, .ref a_t_half, .ref a_t_power, .ref a_t_glass, .int c_t_thing, .int c_t_screen, .int c_t_tall, .int c_t_refused, .double s1.2.2.2.1, .double s1.2.2.2.2.1, .int s1.2.2.2.2.2.1, .long c_t_sum])), (a_t_place, .inl (cI, 8, .inl (upd s1.2.2.2.2.2.2 (p1).toNatClampNeg s1.1))), (a_t_half, .inl (cI, 8, .inl c_t_half)), (a_t_power, .inl (cI, 8, .inl c_t_power)), (a_t_glass, .inl (cI, 8, .inl c_t_glass))] H := hP
                have hD : va_D A [(a_t, .inr (10, [.int (0 : Int32), .int c_t_pieces, .ref a_t_place, .ref a_t_half, .ref a_t_power, .ref a_t_glass, .int c_t_thing, .int c_t_screen, .int c_t_tall, .int c_t_refused, .double s1.2.2.2.1, .double s1.2.2.2.2.1, .int s1.2.2.2.2.2.1, .long c_t_sum])), (a_t_place, .inl (cI, 8, .inl (upd s1.2.2.2.2.2.2 (p1).toNatClampNeg s1.1))), (a_t_half, .inl (cI, 8, .inl c_t_half)), (a_t_power, .inl (cI, 8, .inl c_t_power)), (a_t_glass, .inl (cI, 8, .inl c_t_glass))] := hD
                refine lv_aload_n hx hb dX8_best_95 rfl (lv_at hl 5 rfl) ?_
                refine lv_iload_n hx hb dX8_best_96 rfl (lv_at hl 7 rfl) ?_
                obtain ⟨o21, e22, h⟩ := bd_e h
                refine co_d (W0 := [(a_t, .inr (10, [.int (0 : Int32), .int c_t_pieces, .ref a_t_place, .ref a_t_half, .ref a_t_power, .ref a_t_glass, .int c_t_thing, .int c_t_screen, .int c_t_tall, .int c_t_refused, .double s1.2.2.2.1, .double s1.2.2.2.2.1, .int s1.2.2.2.2.2.1, .long c_t_sum])), (a_t_place, .inl (cI, 8, .inl (upd s1.2.2.2.2.2.2 (p1).toNatClampNeg s1.1))), (a_t_half, .inl (cI, 8, .inl c_t_half)), (a_t_power, .inl (cI, 8, .inl c_t_power)), (a_t_glass, .inl (cI, 8, .inl c_t_glass))]) (wr := []) (W1 := [(a_t, .inr (10, [.int (0 : Int32), .int c_t_pieces, .ref a_t_place, .ref a_t_half, .ref a_t_power, .ref a_t_glass, .int c_t_thing, .int c_t_screen, .int c_t_tall, .int c_t_refused, .double o21.2.1, .double o21.2.2.1, .int o21.2.2.2, .long c_t_sum])), (a_t_place, .inl (cI, 8, .inl (upd s1.2.2.2.2.2.2 (p1).toNatClampNeg s1.1))), (a_t_half, .inl (cI, 8, .inl c_t_half)), (a_t_power, .inl (cI, 8, .inl c_t_power)), (a_t_glass, .inl (cI, 8, .inl c_t_glass))]) (ws2 := [(a_t, .inr (10, [.int (0 : Int32), .int c_t_pieces, .ref a_t_place, .ref a_t_half, .ref a_t_power, .ref a_t_glass, .int c_t_thing, .int c_t_screen, .int c_t_tall, .int c_t_refused, .double o21.2.1, .double o21.2.2.1, .int o21.2.2.2, .long c_t_sum])), (a_t_place, .inl (cI, 8, .inl (upd s1.2.2.2.2.2.2 (p1).toNatClampNeg s1.1))), (a_t_half, .inl (cI, 8, .inl c_t_half)), (a_t_power, .inl (cI, 8, .inl c_t_power)), (a_t_glass, .inl (cI, 8, .inl c_t_glass))]) (va_runV (C := RX8) (As := [.int p2]) (rest := []) ⟨hx, hb, hml, hown, hts⟩ (m_X8_blurNow l D cI cD cB a_t a_t_place a_t_half a_t_power a_t_glass p2 (0 : Int32) c_t_pieces c_t_thing c_t_screen c_t_tall c_t_refused s1.2.2.2.1 s1.2.2.2.2.1 s1.2.2.2.2.2.1 c_t_sum (upd s1.2.2.2.2.2.2 (p1).toNatClampNeg s1.1) c_t_half c_t_power c_t_glass o21 e22 _) (cwV 1 hts gX8_best_X8_blurNow rfl rfl rfl (by decide +kernel) ⟨Nat.le_of_ble_eq_true rfl, Nat.le_of_ble_eq_true rfl⟩) (my_preV (q := (RX8, TX8, 14)) (ci := 10) (q0 := 0) [0, 1, 2, 3, 4] hP hK hNM hZ hD hS hA rfl rfl rfl rfl) rfl rfl hl.1 rfl (lv_room (Nat.le_of_ble_eq_true rfl)) dX8_best_97 ⟨Nat.zero_le _, Nat.zero_le _⟩) hP hD hS hA [0, 1, 2, 3, 4] [] [0, 1, 2, 3, 4] rfl rfl rfl rfl rfl (by decide) (fun H locs hP hD hS => ?_)
                refine lv_dstore (lv' := [(9, .double o21.1), (8, .int o10), (7, .int s1.1), (5, .double s1.2.1), (4, .int s1.2.2.1), (3, .int (c_t_place (p1).toNatClampNeg)), (0, .ref a_t), (1, .int p1), (2, .int p2)]) hx hb dX8_best_100 hl (by decide) rfl (fun ls hl => ?_)
                refine lv_dload hx hb dX8_best_102 (lv_at hl 0 rfl) ?_
                refine lv_dconst0 hx hb dX8_best_104 ?_
                refine lv_dcmp hx hb dX8_best_105 ?_
                refine lv_if_lt (tgt := 134) hx hb dX8_best_106 (by decide) (fun q23 => ?_) (fun q23 => ?_)
                · replace h := ifp h q23
                  refine lv_iinc (v := (s1.1 + (1 : Int32))) (lv' := [(7, .int (s1.1 + (1 : Int32))), (9, .double o21.1), (8, .int o10), (5, .double s1.2.1), (4, .int s1.2.2.1), (3, .int (c_t_place (p1).toNatClampNeg)), (0, .ref a_t), (1, .int p1), (2, .int p2)]) hx hb dX8_best_134 hl (k := 2) rfl rfl (by decide) rfl (fun ls hl => ?_)
                  refine lv_goto (tgt := 55) hx hb dX8_best_137 (by decide) ?_
                  exact ih1 ((s1.1 + (1 : Int32)), s1.2.1, s1.2.2.1, o21.2.1, o21.2.2.1, o21.2.2.2, (upd s1.2.2.2.2.2.2 (p1).toNatClampNeg s1.1)) _ _ _ hP hD hS (lv_sub hl [0, 3, 4, 5, 6, 7, 8] rfl) h
                · replace h := ifn h q23
                  refine lv_iload hx hb dX8_best_109 (lv_at hl 4 rfl) ?_
                  refine lv_iconst (v := (-1 : Int32)) hx hb dX8_best_111 (by decide) ?_
                  refine lv_icmp_eq (tgt := 126) hx hb dX8_best_112 (by decide) (fun q24 => ?_) (fun q24 => ?_)
                  · replace h := ifp h q24
                    refine lv_iload hx hb dX8_best_126 (lv_at hl 2 rfl) ?_
                    refine lv_istore (lv' := [(4, .int s1.1), (9, .double o21.1), (8, .int o10), (7, .int s1.1), (5, .double s1.2.1), (3, .int (c_t_place (p1).toNatClampNeg)), (0, .ref a_t), (1, .int p1), (2, .int p2)]) hx hb dX8_best_128 hl (by decide) rfl (fun ls hl => ?_)
                    refine lv_dload hx hb dX8_best_130 (lv_at hl 1 rfl) ?_
                    refine lv_dstore (lv' := [(5, .double o21.1), (4, .int s1.1), (9, .double o21.1), (8, .int o10), (7, .int s1.1), (3, .int (c_t_place (p1).toNatClampNeg)), (0, .ref a_t), (1, .int p1), (2, .int p2)]) hx hb dX8_best_132 hl (by decide) rfl (fun ls hl => ?_)
                    refine lv_iinc (v := (s1.1 + (1 : Int32))) (lv' := [(7, .int (s1.1 + (1 : Int32))), (5, .double o21.1), (4, .int s1.1), (9, .double o21.1), (8, .int o10), (3, .int (c_t_place (p1).toNatClampNeg)), (0, .ref a_t), (1, .int p1), (2, .int p2)]) hx hb dX8_best_134 hl (k := 4) rfl rfl (by decide) rfl (fun ls hl => ?_)
                    refine lv_goto (tgt := 55) hx hb dX8_best_137 (by decide) ?_
                    exact ih1 ((s1.1 + (1 : Int32)), o21.1, s1.1, o21.2.1, o21.2.2.1, o21.2.2.2, (upd s1.2.2.2.2.2.2 (p1).toNatClampNeg s1.1)) _ _ _ hP hD hS (lv_sub hl [0, 1, 2, 5, 6, 7, 8] rfl) h
                  · replace h := ifn h q24
                    refine lv_dload hx hb dX8_best_115 (lv_at hl 0 rfl) ?_
                    refine lv_dload hx hb dX8_best_117 (lv_at hl 3 rfl) ?_
                    refine lv_dcmp hx hb dX8_best_119 ?_
                    refine lv_if_lt (tgt := 126) hx hb dX8_best_120 (by decide) (fun q25 => ?_) (fun q25 => ?_)
                    · replace h := ifp h q25
                      refine lv_iload hx hb dX8_best_126 (lv_at hl 2 rfl) ?_
                      refine lv_istore (lv' := [(4, .int s1.1), (9, .double o21.1), (8, .int o10), (7, .int s1.1), (5, .double s1.2.1), (3, .int (c_t_place (p1).toNatClampNeg)), (0, .ref a_t), (1, .int p1), (2, .int p2)]) hx hb dX8_best_128 hl (by decide) rfl (fun ls hl => ?_)
                      refine lv_dload hx hb dX8_best_130 (lv_at hl 1 rfl) ?_
                      refine lv_dstore (lv' := [(5, .double o21.1), (4, .int s1.1), (9, .double o21.1), (8, .int o10), (7, .int s1.1), (3, .int (c_t_place (p1).toNatClampNeg)), (0, .ref a_t), (1, .int p1), (2, .int p2)]) hx hb dX8_best_132 hl (by decide) rfl (fun ls hl => ?_)
                      refine lv_iinc (v := (s1.1 + (1 : Int32))) (lv' := [(7, .int (s1.1 + (1 : Int32))), (5, .double o21.1), (4, .int s1.1), (9, .double o21.1), (8, .int o10), (3, .int (c_t_place (p1).toNatClampNeg)), (0, .ref a_t), (1, .int p1), (2, .int p2)]) hx hb dX8_best_134 hl (k := 4) rfl rfl (by decide) rfl (fun ls hl => ?_)
                      refine lv_goto (tgt := 55) hx hb dX8_best_137 (by decide) ?_
                      exact ih1 ((s1.1 + (1 : Int32)), o21.1, s1.1, o21.2.1, o21.2.2.1, o21.2.2.2, (upd s1.2.2.2.2.2.2 (p1).toNatClampNeg s1.1)) _ _ _ hP hD hS (lv_sub hl [0, 1, 2, 5, 6, 7, 8] rfl) h
                    · replace h := ifn h q25
                      refine lv_goto (tgt := 134) hx hb dX8_best_123 (by decide) ?_
                      refine lv_iinc (v := (s1.1 + (1 : Int32))) (lv' := [(7, .int (s1.1 + (1 : Int32))), (9, .double o21.1), (8, .int o10), (5, .double s1.2.1), (4, .int s1.2.2.1), (3, .int (c_t_place (p1).toNatClampNeg)), (0, .ref a_t), (1, .int p1), (2, .int p2)]) hx hb dX8_best_134 hl (k := 2) rfl rfl (by decide) rfl (fun ls hl => ?_)
                      refine lv_goto (tgt := 55) hx hb dX8_best_137 (by decide) ?_
                      exact ih1 ((s1.1 + (1 : Int32)), s1.2.1, s1.2.2.1, o21.2.1, o21.2.2.1, o21.2.2.2, (upd s1.2.2.2.2.2.2 (p1).toNatClampNeg s1.1)) _ _ _ hP hD hS (lv_sub hl [0, 3, 4, 5, 6, 7, 8] rfl) h
              · replace h := ifn h q19
                refine lv_goto (tgt := 134) hx hb dX8_best_84 (by decide) ?_
                refine lv_iinc (v := (s1.1 + (1 : Int32))) (lv' := [(7, .int (s1.1 + (1 : Int32))), (8, .int o10), (5, .double s1.2.1), (4, .int s1.2.2.1), (3, .int (c_t_place (p1).toNatClampNeg)), (0, .ref a_t), (1, .int p1), (2, .int p2)]) hx hb dX8_best_134 hl (k := 1) rfl rfl (by decide) rfl (fun ls hl => ?_)
                refine lv_goto (tgt := 55) hx hb dX8_best_137 (by decide) ?_
                exact ih1 ((s1.1 + (1 : Int32)), s1.2.1, s1.2.2.1, s1.2.2.2.1, s1.2.2.2.2.1, s1.2.2.2.2.2.1, s1.2.2.2.2.2.2) _ _ _ hP hD hS (lv_sub hl [0, 2, 3, 4, 5, 6, 7] rfl) h
      exact LOOP1 1000 ((c_t_thing + (1 : Int32)), FP.dconst0, (-1 : Int32), c_t_height, c_t_slope, c_t_cut, c_t_place) _ _ _ hP hD hS hl h
    · replace h := ifp h q6
      refine lv_aload_n hx hb dX8_best_28 rfl (lv_at hl 0 rfl) ?_
      refine lv_iconst (v := (2 : Int32)) hx hb dX8_best_29 (by decide) ?_
      obtain ⟨o26, e27, h⟩ := bd_e h
      refine co_i (W0 := [(a_t, .inr (10, [.int (0 : Int32), .int c_t_pieces, .ref a_t_place, .ref a_t_half, .ref a_t_power, .ref a_t_glass, .int c_t_thing, .int c_t_screen, .int c_t_tall, .int c_t_refused, .double c_t_height, .double c_t_slope, .int c_t_cut, .long c_t_sum]))]) (wr := [(a_t_place, .inl (cI, 8, .inl c_t_place)), (a_t_half, .inl (cI, 8, .inl c_t_half)), (a_t_power, .inl (cI, 8, .inl c_t_power)), (a_t_glass, .inl (cI, 8, .inl c_t_glass))]) (W1 := [(a_t, .inr (10, [.int o26.2, .int c_t_pieces, .ref a_t_place, .ref a_t_half, .ref a_t_power, .ref a_t_glass, .int c_t_thing, .int c_t_screen, .int c_t_tall, .int c_t_refused, .double c_t_height, .double c_t_slope, .int c_t_cut, .long c_t_sum]))]) (ws2 := [(a_t, .inr (10, [.int o26.2, .int c_t_pieces, .ref a_t_place, .ref a_t_half, .ref a_t_power, .ref a_t_glass, .int c_t_thing, .int c_t_screen, .int c_t_tall, .int c_t_refused, .double c_t_height, .double c_t_slope, .int c_t_cut, .long c_t_sum])), (a_t_place, .inl (cI, 8, .inl c_t_place)), (a_t_half, .inl (cI, 8, .inl c_t_half)), (a_t_power, .inl (cI, 8, .inl c_t_power)), (a_t_glass, .inl (cI, 8, .inl c_t_glass))]) (va_runV (C := RX8) (As := [.int (2 : Int32)]) (rest := []) ⟨hx, hb, hml, hown, hts⟩ (m_X8_refuse l D cI cD cB a_t a_t_place a_t_half a_t_power a_t_glass (2 : Int32) (0 : Int32) c_t_pieces c_t_thing c_t_screen c_t_tall c_t_refused c_t_height c_t_slope c_t_cut c_t_sum o26 e27 _) (cwV 1 hts gX8_best_X8_refuse rfl rfl rfl (by decide +kernel) ⟨Nat.le_of_ble_eq_true rfl, Nat.le_of_ble_eq_true rfl⟩) (my_preV (q := (RX8, TX8, 14)) (ci := 10) (q0 := 0) [0] hP hK hNM hZ hD hS hA rfl rfl rfl rfl) rfl rfl hl.1 rfl (lv_room (Nat.le_of_ble_eq_true rfl)) dX8_best_30 ⟨Nat.zero_le _, Nat.zero_le _⟩) hP hD hS hA [0] [1, 2, 3, 4] [4, 0, 1, 2, 3] rfl rfl rfl rfl rfl (by decide) (fun H locs hP hD hS => ?_)
      rw [← some_e h] at hfin
      exact hfin 33 _ _ _ dX8_best_33 rfl hP hD hS
  · replace h := ifp h q3
    refine lv_aload_n hx hb dX8_best_13 rfl (lv_at hl 0 rfl) ?_
    refine lv_iconst (v := (1 : Int32)) hx hb dX8_best_14 (by decide) ?_
    obtain ⟨o28, e29, h⟩ := bd_e h
    refine co_i (W0 := [(a_t, .inr (10, [.int (0 : Int32), .int c_t_pieces, .ref a_t_place, .ref a_t_half, .ref a_t_power, .ref a_t_glass, .int c_t_thing, .int c_t_screen, .int c_t_tall, .int c_t_refused, .double c_t_height, .double c_t_slope, .int c_t_cut, .long c_t_sum]))]) (wr := [(a_t_place, .inl (cI, 8, .inl c_t_place)), (a_t_half, .inl (cI, 8, .inl c_t_half)), (a_t_power, .inl (cI, 8, .inl c_t_power)), (a_t_glass, .inl (cI, 8, .inl c_t_glass))]) (W1 := [(a_t, .inr (10, [.int o28.2, .int c_t_pieces, .ref a_t_place, .ref a_t_half, .ref a_t_power, .ref a_t_glass, .int c_t_thing, .int c_t_screen, .int c_t_tall, .int c_t_refused, .double c_t_height, .double c_t_slope, .int c_t_cut, .long c_t_sum]))]) (ws2 := [(a_t, .inr (10, [.int o28.2, .int c_t_pieces, .ref a_t_place, .ref a_t_half, .ref a_t_power, .ref a_t_glass, .int c_t_thing, .int c_t_screen, .int c_t_tall, .int c_t_refused, .double c_t_height, .double c_t_slope, .int c_t_cut, .long c_t_sum])), (a_t_place, .inl (cI, 8, .inl c_t_place)), (a_t_half, .inl (cI, 8, .inl c_t_half)), (a_t_power, .inl (cI, 8, .inl c_t_power)), (a_t_glass, .inl (cI, 8, .inl c_t_glass))]) (va_runV (C := RX8) (As := [.int (1 : Int32)]) (rest := []) ⟨hx, hb, hml, hown, hts⟩ (m_X8_refuse l D cI cD cB a_t a_t_place a_t_half a_t_power a_t_glass (1 : Int32) (0 : Int32) c_t_pieces c_t_thing c_t_screen c_t_tall c_t_refused c_t_height c_t_slope c_t_cut c_t_sum o28 e29 _) (cwV 1 hts gX8_best_X8_refuse rfl rfl rfl (by decide +kernel) ⟨Nat.le_of_ble_eq_true rfl, Nat.le_of_ble_eq_true rfl⟩) (my_preV (q := (RX8, TX8, 14)) (ci := 10) (q0 := 0) [0] hP hK hNM hZ hD hS hA rfl rfl rfl rfl) rfl rfl hl.1 rfl (lv_room (Nat.le_of_ble_eq_true rfl)) dX8_best_15 ⟨Nat.zero_le _, Nat.zero_le _⟩) hP hD hS hA [0] [1, 2, 3, 4] [4, 0, 1, 2, 3] rfl rfl rfl rfl rfl (by decide) (fun H locs hP hD hS => ?_)
    rw [← some_e h] at hfin
    exact hfin 18 _ _ _ dX8_best_18 rfl hP hD hS
