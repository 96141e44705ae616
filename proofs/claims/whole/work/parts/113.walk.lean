theorem mc_X8_manyNow_X8 : ∀ w ∈ wsX80, w ∈ wsX8_manyNow := by decide +kernel
theorem mf_X8_manyNow_16 : Cond.fieldLink RX8 16 "LensbenchModel" "power" "[I" ∈ wsX8_manyNow := by decide +kernel
theorem mf_X8_manyNow_22 : Cond.fieldLink RX8 22 "LensbenchModel" "screen" "I" ∈ wsX8_manyNow := by decide +kernel
theorem mf_X8_manyNow_26 : Cond.fieldLink RX8 26 "LensbenchModel" "tall" "I" ∈ wsX8_manyNow := by decide +kernel
theorem mf_X8_manyNow_32 : Cond.fieldLink RX8 32 "LensbenchModel" "pieces" "I" ∈ wsX8_manyNow := by decide +kernel
theorem mf_X8_manyNow_60 : Cond.fieldLink RX8 60 "LensbenchModel" "thing" "I" ∈ wsX8_manyNow := by decide +kernel
theorem mf_X8_manyNow_63 : Cond.fieldLink RX8 63 "LensbenchModel" "refused" "I" ∈ wsX8_manyNow := by decide +kernel
theorem mf_X8_manyNow_9 : Cond.fieldLink RX8 9 "LensbenchModel" "place" "[I" ∈ wsX8_manyNow := by decide +kernel
abbrev rm_X8_manyNow : Room := { frames := 3, cells := 0, slots := 0, locals := 78 }
set_option maxHeartbeats 4000000 in
set_option maxRecDepth 100000 in
theorem m_X8_manyNow (l : Launch) (D : va_G) (cI cD cB : ClassId) (a_t : Nat) (a_t_place : Nat) (a_t_half : Nat) (a_t_power : Nat) (a_t_glass : Nat) (p1 : Int32) (c_t_thrown : Int32) (c_t_pieces : Int32) (c_t_thing : Int32) (c_t_screen : Int32) (c_t_tall : Int32) (c_t_refused : Int32) (c_t_height : UInt64) (c_t_slope : UInt64) (c_t_cut : Int32) (c_t_sum : Int64) (c_t_place : Nat → Int32) (c_t_half : Nat → Int32) (c_t_power : Nat → Int32) (c_t_glass : Nat → Int32) (R : Int32 × UInt64 × UInt64 × Int32) (h : f_X8_manyNow p1 c_t_pieces c_t_thing c_t_screen c_t_tall c_t_refused c_t_height c_t_slope c_t_cut c_t_place c_t_half c_t_power c_t_glass = some R) : Ci l yX8_manyNow wsX8_manyNow rm_X8_manyNow D (TT cI cD cB) [.ref a_t, .int p1] [(a_t, .inr (10, [.int c_t_thrown, .int c_t_pieces, .ref a_t_place, .ref a_t_half, .ref a_t_power, .ref a_t_glass, .int c_t_thing, .int c_t_screen, .int c_t_tall, .int c_t_refused, .double c_t_height, .double c_t_slope, .int c_t_cut, .long c_t_sum])), (a_t_place, .inl (cI, 8, .inl c_t_place)), (a_t_half, .inl (cI, 8, .inl c_t_half)), (a_t_power, .inl (cI, 8, .inl c_t_power)), (a_t_glass, .inl (cI, 8, .inl c_t_glass))] [(a_t, .inr (10, [.int c_t_thrown, .int c_t_pieces, .ref a_t_place, .ref a_t_half, .ref a_t_power, .ref a_t_glass, .int c_t_thing, .int c_t_screen, .int c_t_tall, .int c_t_refused, .double R.2.1, .double R.2.2.1, .int R.2.2.2, .long c_t_sum])), (a_t_place, .inl (cI, 8, .inl c_t_place)), (a_t_half, .inl (cI, 8, .inl c_t_half)), (a_t_power, .inl (cI, 8, .inl c_t_power)), (a_t_glass, .inl (cI, 8, .inl c_t_glass))] R.1 0 0 := by
  unfold f_X8_manyNow at h
  refine st_i (cc := cX8_manyNow) (maxL := 6) (by decide) rfl (Nat.le_of_ble_eq_true rfl) (fun p e s m av below meth c A Q ls hx hb hml hts hown hA hK hNM hZ hP hD hS hl hfin => ?_)
  have hown : s.vm.findClass RX8 = some m.cls := hown
  have hl : lv_has ls 6 [(0, .ref a_t), (1, .int p1)] := hl
  refine lv_iconst (v := (0 : Int32)) hx hb dX8_manyNow_0 (by decide) ?_
  refine lv_istore_n (lv' := [(2, .int (0 : Int32)), (0, .ref a_t), (1, .int p1)]) hx hb dX8_manyNow_1 rfl hl (by decide) rfl (fun ls hl => ?_)
  refine lv_iconst (v := (0 : Int32)) hx hb dX8_manyNow_2 (by decide) ?_
  refine lv_istore_n (lv' := [(3, .int (0 : Int32)), (2, .int (0 : Int32)), (0, .ref a_t), (1, .int p1)]) hx hb dX8_manyNow_3 rfl hl (by decide) rfl (fun ls hl => ?_)
  refine lv_aload_n hx hb dX8_manyNow_4 rfl (lv_at hl 2 rfl) ?_
  refine va_get (D := D) (ci := 10) (v := .int c_t_thing) (C := RX8) (T := TX8) (N := 14) hx hb hts mc_X8_manyNow_X8 hown hK hP 0 rfl rfl 6 (by decide) (hts _ mf_X8_manyNow_60) (fun _ h9 => h9) rfl dX8_manyNow_5 ?_
  refine lv_istore (lv' := [(4, .int c_t_thing), (3, .int (0 : Int32)), (2, .int (0 : Int32)), (0, .ref a_t), (1, .int p1)]) hx hb dX8_manyNow_8 hl (by decide) rfl (fun ls hl => ?_)
  refine lv_iconst (v := (0 : Int32)) hx hb dX8_manyNow_10 (by decide) ?_
  refine lv_istore (lv' := [(5, .int (0 : Int32)), (4, .int c_t_thing), (3, .int (0 : Int32)), (2, .int (0 : Int32)), (0, .ref a_t), (1, .int p1)]) hx hb dX8_manyNow_11 hl (by decide) rfl (fun ls hl => ?_)
  have LOOP1 : ∀ (n1 : Nat) (s1 : Int32 × Int32) (H : Heap) (locs : List Loc) (ls : Array Slot), va_P D vwCl [(a_t, .inr (10, [.int c_t_thrown, .int c_t_pieces, .ref a_t_place, .ref a_t_half, .ref a_t_power, .ref a_t_glass, .int c_t_thing, .int c_t_screen, .int c_t_tall, .int c_t_refused, .double c_t_height, .double c_t_slope, .int c_t_cut, .long c_t_sum])), (a_t_place, .inl (cI, 8, .inl c_t_place)), (a_t_half, .inl (cI, 8, .inl c_t_half)), (a_t_power, .inl (cI, 8, .inl c_t_power)), (a_t_glass, .inl (cI, 8, .inl c_t_glass))] H → va_D A [(a_t, .inr (10, [.int c_t_thrown, .int c_t_pieces, .ref a_t_place, .ref a_t_half, .ref a_t_power, .ref a_t_glass, .int c_t_thing, .int c_t_screen, .int c_t_tall, .int c_t_refused, .double c_t_height, .double c_t_slope, .int c_t_cut, .long c_t_sum])), (a_t_place, .inl (cI, 8, .inl c_t_place)), (a_t_half, .inl (cI, 8, .inl c_t_half)), (a_t_power, .inl (cI, 8, .inl c_t_power)), (a_t_glass, .inl (cI, 8, .inl c_t_glass))] → va_S A s.heap H locs → lv_has ls 6 [(5, .int s1.1), (4, .int c_t_thing), (3, .int (0 : Int32)), (2, .int s1.2), (0, .ref a_t), (1, .int p1)] → lp (f_X8_manyNow_b1 p1 c_t_pieces c_t_thing c_t_screen c_t_tall c_t_refused c_t_height c_t_slope c_t_cut c_t_place c_t_half c_t_power c_t_glass) n1 s1 = some R → W p l e rm_X8_manyNow s m av below meth c H locs 0 0 Q (F0 m 13 ls []) := by
    intro n1
    induction n1 with
    | zero => intro s1 H locs ls hP hD hS hl h; exact lp_0 h
    | succ n1 ih1 =>
      intro s1 H locs ls hP hD hS hl h
      replace h := lp_s h
      unfold f_X8_manyNow_b1 at h
      refine lv_iload hx hb dX8_manyNow_13 (lv_at hl 0 rfl) ?_
      refine lv_aload_n hx hb dX8_manyNow_15 rfl (lv_at hl 4 rfl) ?_
      refine va_get (D := D) (ci := 10) (v := .int c_t_pieces) (C := RX8) (T := TX8) (N := 14) hx hb hts mc_X8_manyNow_X8 hown hK hP 0 rfl rfl 1 (by decide) (hts _ mf_X8_manyNow_32) (fun _ h9 => h9) rfl dX8_manyNow_16 ?_
      refine lv_icmp_ge (tgt := 46) hx hb dX8_manyNow_19 (by decide) (fun q1 => ?_) (fun q1 => ?_)
      · replace h := ifp h q1
        refine lv_aload_n hx hb dX8_manyNow_46 rfl (lv_at hl 4 rfl) ?_
        refine lv_aload_n hx hb dX8_manyNow_47 rfl (lv_at hl 4 rfl) ?_
        refine va_get (D := D) (ci := 10) (v := .int c_t_thing) (C := RX8) (T := TX8) (N := 14) hx hb hts mc_X8_manyNow_X8 hown hK hP 0 rfl rfl 6 (by decide) (hts _ mf_X8_manyNow_60) (fun _ h9 => h9) rfl dX8_manyNow_48 ?_
        obtain ⟨o2, e3, h⟩ := bd_e h
        refine co_i (W0 := [(a_t, .inr (10, [.int c_t_thrown, .int c_t_pieces, .ref a_t_place, .ref a_t_half, .ref a_t_power, .ref a_t_glass, .int c_t_thing, .int c_t_screen, .int c_t_tall, .int c_t_refused, .double c_t_height, .double c_t_slope, .int c_t_cut, .long c_t_sum])), (a_t_place, .inl (cI, 8, .inl c_t_place))]) (wr := [(a_t_half, .inl (cI, 8, .inl c_t_half)), (a_t_power, .inl (cI, 8, .inl c_t_power)), (a_t_glass, .inl (cI, 8, .inl c_t_glass))]) (W1 := [(a_t, .inr (10, [.int c_t_thrown, .int c_t_pieces, .ref a_t_place, .ref a_t_half, .ref a_t_power, .ref a_t_glass, .int c_t_thing, .int c_t_screen, .int c_t_tall, .int c_t_refused, .double c_t_height, .double c_t_slope, .int c_t_cut, .long c_t_sum])), (a_t_place, .inl (cI, 8, .inl c_t_place))]) (ws2 := [(a_t, .inr (10, [.int c_t_thrown, .int c_t_pieces, .ref a_t_place, .ref a_t_half, .ref a_t_power, .ref a_t_glass, .int c_t_thing, .int c_t_screen, .int c_t_tall, .int c_t_refused, .double c_t_height, .double c_t_slope, .int c_t_cut, .long c_t_sum])), (a_t_place, .inl (cI, 8, .inl c_t_place)), (a_t_half, .inl (cI, 8, .inl c_t_half)), (a_t_power, .inl (cI, 8, .inl c_t_power)), (a_t_glass, .inl (cI, 8, .inl c_t_glass))]) (va_runV (C := RX8) (As := [.int c_t_thing]) (rest := []) ⟨hx, hb, hml, hown, hts⟩ (m_X8_next l D cI cD cB a_t a_t_place a_t_half a_t_power a_t_glass c_t_thing c_t_thrown c_t_pieces c_t_thing c_t_screen c_t_tall c_t_refused c_t_height c_t_slope c_t_cut c_t_sum c_t_place o2 e3 _) (cwV 1 hts gX8_manyNow_X8_next rfl rfl rfl (by decide +kernel) ⟨Nat.le_of_ble_eq_true rfl, Nat.le_of_ble_eq_true rfl⟩) (my_preV (q := (RX8, TX8, 14)) (ci := 10) (q0 := 0) [0, 1] hP hK hNM hZ hD hS hA rfl rfl rfl rfl) rfl rfl hl.1 rfl (lv_room (Nat.le_of_ble_eq_true rfl)) dX8_manyNow_51 ⟨Nat.zero_le _, Nat.zero_le _⟩) hP hD hS hA [0, 1] [2, 3, 4] [3, 4, 0, 1, 2] rfl rfl rfl rfl rfl (by decide) (fun H locs hP hD hS => ?_)
        refine lv_istore (lv' := [(5, .int o2), (4, .int c_t_thing), (3, .int (0 : Int32)), (2, .int s1.2), (0, .ref a_t), (1, .int p1)]) hx hb dX8_manyNow_54 hl (by decide) rfl (fun ls hl => ?_)
        have LOOP2 : ∀ (n2 : Nat) (s2 : Int32 × Int32 × Int32) (H : Heap) (locs : List Loc) (ls : Array Slot), va_P D vwCl [(a_t, .inr (10, [.int c_t_thrown, .int c_t_pieces, .ref a_t_place, .ref a_t_half, .ref a_t_power, .ref a_t_glass, .int c_t_thing, .int c_t_screen, .int c_t_tall, .int c_t_refused, .double c_t_height, .double c_t_slope, .int c_t_cut, .long c_t_sum])), (a_t_place, .inl (cI, 8, .inl c_t_place)), (a_t_half, .inl (cI, 8, .inl c_t_half)), (a_t_power, .inl (cI, 8, .inl c_t_power)), (a_t_glass, .inl (cI, 8, .inl c_t_glass))] H → va_D A [(a_t, .inr (10, [.int c_t_thrown, .int c_t_pieces, .ref a_t_place, .ref a_t_half, .ref a_t_power, .ref a_t_glass, .int c_t_thing, .int c_t_screen, .int c_t_tall, .int c_t_refused, .double c_t_height, .double c_t_slope, .int c_t_cut, .long c_t_sum])), (a_t_place, .inl (cI, 8, .inl c_t_place)), (a_t_half, .inl (cI, 8, .inl c_t_half)), (a_t_power, .inl (cI, 8, .inl c_t_power)), (a_t_glass, .inl (cI, 8, .inl c_t_glass))] → va_S A s.heap H locs → lv_has ls 6 [(5, .int s2.1), (4, .int s2.2.1), (3, .int s2.2.2), (2, .int s1.2), (0, .ref a_t), (1, .int p1)] → lp (f_X8_manyNow_b2 p1 c_t_pieces c_t_thing c_t_screen c_t_tall c_t_refused c_t_height c_t_slope c_t_cut c_t_place c_t_half c_t_power c_t_glass s1) n2 s2 = some R → W p l e rm_X8_manyNow s m av below meth c H locs 0 0 Q (F0 m 56 ls []) := by
          intro n2
          induction n2 with
          | zero => intro s2 H locs ls hP hD hS hl h; exact lp_0 h
          | succ n2 ih2 =>
            intro s2 H locs ls hP hD hS hl h
            replace h := lp_s h
            unfold f_X8_manyNow_b2 at h
            refine lv_iload hx hb dX8_manyNow_56 (lv_at hl 0 rfl) ?_
            refine lv_iconst (v := (-1 : Int32)) hx hb dX8_manyNow_58 (by decide) ?_
            refine lv_icmp_eq (tgt := 90) hx hb dX8_manyNow_59 (by decide) (fun q4 => ?_) (fun q4 => ?_)
            · replace h := ifp h q4
              refine lv_iload_n hx hb dX8_manyNow_90 rfl (lv_at hl 5 rfl) ?_
              by_cases q5 : p1 = (0 : Int32)
              · replace h := ifp h q5
                refine lv_tableIn (off := 49) (tgt := 140) hx hb dX8_manyNow_91 (by rw [q5]; decide) (by rw [q5]; decide) (by rw [q5]; rfl) (by decide) ?_
                refine lv_aload_n hx hb dX8_manyNow_140 rfl (lv_at hl 4 rfl) ?_
                refine va_get (D := D) (ci := 10) (v := .int c_t_pieces) (C := RX8) (T := TX8) (N := 14) hx hb hts mc_X8_manyNow_X8 hown hK hP 0 rfl rfl 1 (by decide) (hts _ mf_X8_manyNow_32) (fun _ h9 => h9) rfl dX8_manyNow_141 ?_
                rw [← some_e h] at hfin
                exact hfin 144 _ _ _ dX8_manyNow_144 rfl hP hD hS
              · replace h := ifn h q5
                by_cases q6 : p1 = (1 : Int32)
                · replace h := ifp h q6
                  refine lv_tableIn (off := 54) (tgt := 145) hx hb dX8_manyNow_91 (by rw [q6]; decide) (by rw [q6]; decide) (by rw [q6]; rfl) (by decide) ?_
                  refine lv_iload_n hx hb dX8_manyNow_145 rfl (lv_at hl 3 rfl) ?_
                  rw [← some_e h] at hfin
                  exact hfin 146 _ _ _ dX8_manyNow_146 rfl hP hD hS
                · replace h := ifn h q6
                  by_cases q7 : p1 = (2 : Int32)
                  · replace h := ifp h q7
                    refine lv_tableIn (off := 56) (tgt := 147) hx hb dX8_manyNow_91 (by rw [q7]; decide) (by rw [q7]; decide) (by rw [q7]; rfl) (by decide) ?_
                    refine lv_iload_n hx hb dX8_manyNow_147 rfl (lv_at hl 2 rfl) ?_
                    rw [← some_e h] at hfin
                    exact hfin 148 _ _ _ dX8_manyNow_148 rfl hP hD hS
                  · replace h := ifn h q7
                    by_cases q8 : p1 = (3 : Int32)
                    · replace h := ifp h q8
                      refine lv_tableIn (off := 58) (tgt := 149) hx hb dX8_manyNow_91 (by rw [q8]; decide) (by rw [q8]; decide) (by rw [q8]; rfl) (by decide) ?_
                      refine lv_aload_n hx hb dX8_manyNow_149 rfl (lv_at hl 4 rfl) ?_
                      refine va_get (D := D) (ci := 10) (v := .int c_t_thing) (C := RX8) (T := TX8) (N := 14) hx hb hts mc_X8_manyNow_X8 hown hK hP 0 rfl rfl 6 (by decide) (hts _ mf_X8_manyNow_60) (fun _ h9 => h9) rfl dX8_manyNow_150 ?_
                      rw [← some_e h] at hfin
                      exact hfin 153 _ _ _ dX8_manyNow_153 rfl hP hD hS
                    · replace h := ifn h q8
                      by_cases q9 : p1 = (4 : Int32)
                      · replace h := ifp h q9
                        refine lv_tableIn (off := 63) (tgt := 154) hx hb dX8_manyNow_91 (by rw [q9]; decide) (by rw [q9]; decide) (by rw [q9]; rfl) (by decide) ?_
                        refine lv_aload_n hx hb dX8_manyNow_154 rfl (lv_at hl 4 rfl) ?_
                        refine va_get (D := D) (ci := 10) (v := .int c_t_screen) (C := RX8) (T := TX8) (N := 14) hx hb hts mc_X8_manyNow_X8 hown hK hP 0 rfl rfl 7 (by decide) (hts _ mf_X8_manyNow_22) (fun _ h9 => h9) rfl dX8_manyNow_155 ?_
                        rw [← some_e h] at hfin
                        exact hfin 158 _ _ _ dX8_manyNow_158 rfl hP hD hS
                      · replace h := ifn h q9
                        by_cases q10 : p1 = (5 : Int32)
                        · replace h := ifp h q10
                          refine lv_tableIn (off := 68) (tgt := 159) hx hb dX8_manyNow_91 (by rw [q10]; decide) (by rw [q10]; decide) (by rw [q10]; rfl) (by decide) ?_
                          refine lv_aload_n hx hb dX8_manyNow_159 rfl (lv_at hl 4 rfl) ?_
                          obtain ⟨o11, e12, h⟩ := bd_e h
                          refine co_i (W0 := [(a_t, .inr (10, [.int c_t_thrown, .int c_t_pieces, .ref a_t_place, .ref a_t_half, .ref a_t_power, .ref a_t_glass, .int c_t_thing, .int c_t_screen, .int c_t_tall, .int c_t_refused, .double c_t_height, .double c_t_slope, .int c_t_cut, .long c_t_sum])), (a_t_place, .inl (cI, 8, .inl c_t_place)), (a_t_half, .inl (cI, 8, .inl c_t_half)), (a_t_power, .inl (cI, 8, .inl c_t_power)), (a_t_glass, .inl (cI, 8, .inl c_t_glass))]) (wr := []) (W1 := [(a_t, .inr (10, [.int c_t_thrown, .int c_t_pieces, .ref a_t_place, .ref a_t_half, .ref a_t_power, .ref a_t_glass, .int c_t_thing, .int c_t_screen, .int c_t_tall, .int c_t_refused, .double o11.2, .double c_t_slope, .int c_t_cut, .long c_t_sum])), (a_t_place, .inl (cI, 8, .inl c_t_place)), (a_t_half, .inl (cI, 8, .inl c_t_half)), (a_t_power, .inl (cI, 8, .inl c_t_power)), (a_t_glass, .inl (cI, 8, .inl c_t_glass))]) (ws2 := [(a_t, .inr (10, [.int c_t_thrown, .int c_t_pieces, .ref a_t_place, .ref a_t_half, .ref a_t_power, .ref a_t_glass, .int c_t_thing, .int c_t_screen, .int c_t_tall, .int c_t_refused, .double o11.2, .double c_t_slope, .int c_t_cut, .long c_t_sum])), (a_t_place, .inl (cI, 8, .inl c_t_place)), (a_t_half, .inl (cI, 8, .inl c_t_half)), (a_t_power, .inl (cI, 8, .inl c_t_power)), (a_t_glass, .inl (cI, 8, .inl c_t_glass))]) (va_runV (C := RX8) (As := []) (rest := []) ⟨hx, hb, hml, hown, hts⟩ (m_X8_opening l D cI cD cB a_t a_t_place a_t_half a_t_power a_t_glass c_t_thrown c_t_pieces c_t_thing c_t_screen c_t_tall c_t_refused c_t_height c_t_slope c_t_cut c_t_sum c_t_place c_t_half c_t_power c_t_glass o11 e12 _) (cwV 0 hts gX8_manyNow_X8_opening rfl rfl rfl (by decide +kernel) ⟨Nat.le_of_ble_eq_true rfl, Nat.le_of_ble_eq_true rfl⟩) (my_preV (q := (RX8, TX8, 14)) (ci := 10) (q0 := 0) [0, 1, 2, 3, 4] hP hK hNM hZ hD hS hA rfl rfl rfl rfl) rfl rfl hl.1 rfl (lv_room (Nat.le_of_ble_eq_true rfl)) dX8_manyNow_160 ⟨Nat.zero_le _, Nat.zero_le _⟩) hP hD hS hA [0, 1, 2, 3, 4] [] [0, 1, 2, 3, 4] rfl rfl rfl rfl rfl (by decide) (fun H locs hP hD hS => ?_)
                          rw [← some_e h] at hfin
                          exact hfin 163 _ _ _ dX8_manyNow_163 rfl hP hD hS
                        · replace h := ifn h q10
                          by_cases q13 : p1 = (6 : Int32)
                          · replace h := ifp h q13
                            refine lv_tableIn (off := 73) (tgt := 164) hx hb dX8_manyNow_91 (by rw [q13]; decide) (by rw [q13]; decide) (by rw [q13]; rfl) (by decide) ?_
                            refine lv_aload_n hx hb dX8_manyNow_164 rfl (lv_at hl 4 rfl) ?_
                            refine lv_iconst (v := (-1 : Int32)) hx hb dX8_manyNow_165 (by decide) ?_
                            obtain ⟨o14, e15, h⟩ := bd_e h
                            refine co_i (W0 := [(a_t, .inr (10, [.int c_t_thrown, .int c_t_pieces, .ref a_t_place, .ref a_t_half, .ref a_t_power, .ref a_t_glass, .int c_t_thing, .int c_t_screen, .int c_t_tall, .int c_t_refused, .double c_t_height, .double c_t_slope, .int c_t_cut, .long c_t_sum])), (a_t_place, .inl (cI, 8, .inl c_t_place)), (a_t_half, .inl (cI, 8, .inl c_t_half)), (a_t_power, .inl (cI, 8, .inl c_t_power)), (a_t_glass, .inl (cI, 8, .inl c_t_glass))]) (wr := []) (W1 := [(a_t, .inr (10, [.int c_t_thrown, .int c_t_pieces, .ref a_t_place, .ref a_t_half, .ref a_t_power, .ref a_t_glass, .int c_t_thing, .int c_t_screen, .int c_t_tall, .int c_t_refused, .double o14.2.1, .double o14.2.2.1, .int o14.2.2.2, .long c_t_sum])), (a_t_place, .inl (cI, 8, .inl c_t_place)), (a_t_half, .inl (cI, 8, .inl c_t_half)), (a_t_power, .inl (cI, 8, .inl c_t_power)), (a_t_glass, .inl (cI, 8, .inl c_t_glass))]) (ws2 := [(a_t, .inr (10, [.int c_t_thrown, .int c_t_pieces, .ref a_t_place, .ref a_t_half, .ref a_t_power, .ref a_t_glass, .int c_t_thing, .int c_t_screen, .int c_t_tall, .int c_t_refused, .double o14.2.1, .double o14.2.2.1, .int o14.2.2.2, .long c_t_sum])), (a_t_place, .inl (cI, 8, .inl c_t_place)), (a_t_half, .inl (cI, 8, .inl c_t_half)), (a_t_power, .inl (cI, 8, .inl c_t_power)), (a_t_glass, .inl (cI, 8, .inl c_t_glass))]) (va_runV (C := RX8) (As := [.int (-1 : Int32)]) (rest := []) ⟨hx, hb, hml, hown, hts⟩ (m_X8_light l D cI cD cB a_t a_t_place a_t_half a_t_power a_t_glass (-1 : Int32) c_t_thrown c_t_pieces c_t_thing c_t_screen c_t_tall c_t_refused c_t_height c_t_slope c_t_cut c_t_sum c_t_place c_t_half c_t_power c_t_glass o14 e15 _) (cwV 1 hts gX8_manyNow_X8_light rfl rfl rfl (by decide +kernel) ⟨Nat.le_of_ble_eq_true rfl, Nat.le_of_ble_eq_true rfl⟩) (my_preV (q := (RX8, TX8, 14)) (ci := 10) (q0 := 0) [0, 1, 2, 3, 4] hP hK hNM hZ hD hS hA rfl rfl rfl rfl) rfl rfl hl.1 rfl (lv_room (Nat.le_of_ble_eq_true rfl)) dX8_manyNow_166 ⟨Nat.zero_le _, Nat.zero_le _⟩) hP hD hS hA [0, 1, 2, 3, 4] [] [0, 1, 2, 3, 4] rfl rfl rfl rfl rfl (by decide) (fun H locs hP hD hS => ?_)
                            rw [← some_e h] at hfin
                            exact hfin 169 _ _ _ dX8_manyNow_169 rfl hP hD hS
                          · replace h := ifn h q13
                            by_cases q16 : p1 = (7 : Int32)
                            · replace h := ifp h q16
                              refine lv_tableIn (off := 79) (tgt := 170) hx hb dX8_manyNow_91 (by rw [q16]; decide) (by rw [q16]; decide) (by rw [q16]; rfl) (by decide) ?_
                              refine lv_aload_n hx hb dX8_manyNow_170 rfl (lv_at hl 4 rfl) ?_
                              refine va_get (D := D) (ci := 10) (v := .int c_t_refused) (C := RX8) (T := TX8) (N := 14) hx hb hts mc_X8_manyNow_X8 hown hK hP 0 rfl rfl 9 (by decide) (hts _ mf_X8_manyNow_63) (fun _ h9 => h9) rfl dX8_manyNow_171 ?_
                              rw [← some_e h] at hfin
                              exact hfin 174 _ _ _ dX8_manyNow_174 rfl hP hD hS
                            · replace h := ifn h q16
                              by_cases q17 : p1 = (8 : Int32)
                              · replace h := ifp h q17
                                refine lv_tableIn (off := 84) (tgt := 175) hx hb dX8_manyNow_91 (by rw [q17]; decide) (by rw [q17]; decide) (by rw [q17]; rfl) (by decide) ?_
                                refine lv_iload hx hb dX8_manyNow_175 (lv_at hl 1 rfl) ?_
                                rw [← some_e h] at hfin
                                exact hfin 177 _ _ _ dX8_manyNow_177 rfl hP hD hS
                              · replace h := ifn h q17
                                have tq5 := lv_neT q5 (show ((0 : Int32)).toInt = 0 from rfl)
                                have tq6 := lv_neT q6 (show ((1 : Int32)).toInt = 1 from rfl)
                                have tq7 := lv_neT q7 (show ((2 : Int32)).toInt = 2 from rfl)
                                have tq8 := lv_neT q8 (show ((3 : Int32)).toInt = 3 from rfl)
                                have tq9 := lv_neT q9 (show ((4 : Int32)).toInt = 4 from rfl)
                                have tq10 := lv_neT q10 (show ((5 : Int32)).toInt = 5 from rfl)
                                have tq13 := lv_neT q13 (show ((6 : Int32)).toInt = 6 from rfl)
                                have tq16 := lv_neT q16 (show ((7 : Int32)).toInt = 7 from rfl)
                                have tq17 := lv_neT q17 (show ((8 : Int32)).toInt = 8 from rfl)
                                refine lv_tableOut (tgt := 178) hx hb dX8_manyNow_91 (by omega) (by decide) ?_
                                refine lv_aload_n hx hb dX8_manyNow_178 rfl (lv_at hl 4 rfl) ?_
                                refine va_get (D := D) (ci := 10) (v := .int c_t_tall) (C := RX8) (T := TX8) (N := 14) hx hb hts mc_X8_manyNow_X8 hown hK hP 0 rfl rfl 8 (by decide) (hts _ mf_X8_manyNow_26) (fun _ h9 => h9) rfl dX8_manyNow_179 ?_
                                rw [← some_e h] at hfin
                                exact hfin 182 _ _ _ dX8_manyNow_182 rfl hP hD hS
            · replace h := ifn h q4
              refine lv_iinc (v := (s2.2.2 + (1 : Int32))) (lv' := [(3, .int (s2.2.2 + (1 : Int32))), (5, .int s2.1), (4, .int s2.2.1), (2, .int s1.2), (0, .ref a_t), (1, .int p1)]) hx hb dX8_manyNow_62 hl (k := 2) rfl rfl (by decide) rfl (fun ls hl => ?_)
              refine lv_aload_n hx hb dX8_manyNow_65 rfl (lv_at hl 4 rfl) ?_
              refine va_get (D := D) (ci := 10) (v := .ref a_t_place) (C := RX8) (T := TX8) (N := 14) hx hb hts mc_X8_manyNow_X8 hown hK hP 0 rfl rfl 2 (by decide) (hts _ mf_X8_manyNow_9) (fun _ h9 => h9) rfl dX8_manyNow_66 ?_
              refine lv_iload hx hb dX8_manyNow_69 (lv_at hl 1 rfl) ?_
              obtain ⟨g18, h⟩ := gd_e h
              refine va_iald hx hb hK hP 1 0 rfl rfl (vin_in g18) dX8_manyNow_71 ?_
              refine lv_istore (lv' := [(4, .int (c_t_place (s2.1).toNatClampNeg)), (3, .int (s2.2.2 + (1 : Int32))), (5, .int s2.1), (2, .int s1.2), (0, .ref a_t), (1, .int p1)]) hx hb dX8_manyNow_72 hl (by decide) rfl (fun ls hl => ?_)
              refine lv_aload_n hx hb dX8_manyNow_74 rfl (lv_at hl 4 rfl) ?_
              refine lv_aload_n hx hb dX8_manyNow_75 rfl (lv_at hl 4 rfl) ?_
              refine va_get (D := D) (ci := 10) (v := .ref a_t_place) (C := RX8) (T := TX8) (N := 14) hx hb hts mc_X8_manyNow_X8 hown hK hP 0 rfl rfl 2 (by decide) (hts _ mf_X8_manyNow_9) (fun _ h9 => h9) rfl dX8_manyNow_76 ?_
              refine lv_iload hx hb dX8_manyNow_79 (lv_at hl 2 rfl) ?_
              obtain ⟨g19, h⟩ := gd_e h
              refine va_iald hx hb hK hP 1 0 rfl rfl (vin_in g19) dX8_manyNow_81 ?_
              obtain ⟨o20, e21, h⟩ := bd_e h
              refine co_i (W0 := [(a_t, .inr (10, [.int c_t_thrown, .int c_t_pieces, .ref a_t_place, .ref a_t_half, .ref a_t_power, .ref a_t_glass, .int c_t_thing, .int c_t_screen, .int c_t_tall, .int c_t_refused, .double c_t_height, .double c_t_slope, .int c_t_cut, .long c_t_sum])), (a_t_place, .inl (cI, 8, .inl c_t_place))]) (wr := [(a_t_half, .inl (cI, 8, .inl c_t_half)), (a_t_power, .inl (cI, 8, .inl c_t_power)), (a_t_glass, .inl (cI, 8, .inl c_t_glass))]) (W1 := [(a_t, .inr (10, [.int c_t_thrown, .int c_t_pieces, .ref a_t_place, .ref a_t_half, .ref a_t_power, .ref a_t_glass, .int c_t_thing, .int c_t_screen, .int c_t_tall, .int c_t_refused, .double c_t_height, .double c_t_slope, .int c_t_cut, .long c_t_sum])), (a_t_place, .inl (cI, 8, .inl c_t_place))]) (ws2 := [(a_t, .inr (10, [.int c_t_thrown, .int c_t_pieces, .ref a_t_place, .ref a_t_half, .ref a_t_power, .ref a_t_glass, .int c_t_thing, .int c_t_screen, .int c_t_tall, .int c_t_refused, .double c_t_height, .double c_t_slope, .int c_t_cut, .long c_t_sum])), (a_t_place, .inl (cI, 8, .inl c_t_place)), (a_t_half, .inl (cI, 8, .inl c_t_half)), (a_t_power, .inl (cI, 8, .inl c_t_power)), (a_t_glass, .inl (cI, 8, .inl c_t_glass))]) (va_runV (C := RX8) (As := [.int (c_t_place (s2.1).toNatClampNeg)]) (rest := []) ⟨hx, hb, hml, hown, hts⟩ (m_X8_next l D cI cD cB a_t a_t_place a_t_half a_t_power a_t_glass (c_t_place (s2.1).toNatClampNeg) c_t_thrown c_t_pieces c_t_thing c_t_screen c_t_tall c_t_refused c_t_height c_t_slope c_t_cut c_t_sum c_t_place o20 e21 _) (cwV 1 hts gX8_manyNow_X8_next rfl rfl rfl (by decide +kernel) ⟨Nat.le_of_ble_eq_true rfl, Nat.le_of_ble_eq_true rfl⟩) (my_preV (q := (RX8, TX8, 14)) (ci := 10) (q0 := 0) [0, 1] hP hK hNM hZ hD hS hA rfl rfl rfl rfl) rfl rfl hl.1 rfl (lv_room (Nat.le_of_ble_eq_true rfl)) dX8_manyNow_82 ⟨Nat.zero_le _, Nat.zero_le _⟩) hP hD hS hA [0, 1] [2, 3, 4] [3, 4, 0, 1, 2] rfl rfl rfl rfl rfl (by decide) (fun H locs hP hD hS => ?_)
              refine lv_istore (lv' := [(5, .int o20), (4, .int (c_t_place (s2.1).toNatClampNeg)), (3, .int (s2.2.2 + (1 : Int32))), (2, .int s1.2), (0, .ref a_t), (1, .int p1)]) hx hb dX8_manyNow_85 hl (by decide) rfl (fun ls hl => ?_)
              refine lv_goto (tgt := 56) hx hb dX8_manyNow_87 (by decide) ?_
              exact ih2 (o20, (c_t_place (s2.1).toNatClampNeg), (s2.2.2 + (1 : Int32))) _ _ _ hP hD hS (lv_sub hl [0, 1, 2, 3, 4, 5] rfl) h
        exact LOOP2 1000 (o2, c_t_thing, (0 : Int32)) _ _ _ hP hD hS hl h
      · replace h := ifn h q1
        refine lv_iload_n hx hb dX8_manyNow_22 rfl (lv_at hl 3 rfl) ?_
        refine lv_aload_n hx hb dX8_manyNow_23 rfl (lv_at hl 4 rfl) ?_
        refine va_get (D := D) (ci := 10) (v := .ref a_t_power) (C := RX8) (T := TX8) (N := 14) hx hb hts mc_X8_manyNow_X8 hown hK hP 0 rfl rfl 4 (by decide) (hts _ mf_X8_manyNow_16) (fun _ h9 => h9) rfl dX8_manyNow_24 ?_
        refine lv_iload hx hb dX8_manyNow_27 (lv_at hl 0 rfl) ?_
        obtain ⟨g22, h⟩ := gd_e h
        refine va_iald hx hb hK hP 3 0 rfl rfl (vin_in g22) dX8_manyNow_29 ?_
        refine lv_if_ne (tgt := 37) hx hb dX8_manyNow_30 (by decide) (fun q23 => ?_) (fun q23 => ?_)
        · replace h := ifn h q23
          refine lv_iconst (v := (1 : Int32)) hx hb dX8_manyNow_37 (by decide) ?_
          refine lv_iadd hx hb dX8_manyNow_38 ?_
          refine lv_istore_n (lv' := [(2, .int (s1.2 + (1 : Int32))), (5, .int s1.1), (4, .int c_t_thing), (3, .int (0 : Int32)), (0, .ref a_t), (1, .int p1)]) hx hb dX8_manyNow_39 rfl hl (by decide) rfl (fun ls hl => ?_)
          refine lv_iinc (v := (s1.1 + (1 : Int32))) (lv' := [(5, .int (s1.1 + (1 : Int32))), (2, .int (s1.2 + (1 : Int32))), (4, .int c_t_thing), (3, .int (0 : Int32)), (0, .ref a_t), (1, .int p1)]) hx hb dX8_manyNow_40 hl (k := 1) rfl rfl (by decide) rfl (fun ls hl => ?_)
          refine lv_goto (tgt := 13) hx hb dX8_manyNow_43 (by decide) ?_
          exact ih1 ((s1.1 + (1 : Int32)), (s1.2 + (1 : Int32))) _ _ _ hP hD hS (lv_sub hl [0, 2, 3, 1, 4, 5] rfl) h
        · replace h := ifp h q23
          refine lv_iconst (v := (0 : Int32)) hx hb dX8_manyNow_33 (by decide) ?_
          refine lv_goto (tgt := 38) hx hb dX8_manyNow_34 (by decide) ?_
          refine lv_iadd hx hb dX8_manyNow_38 ?_
          refine lv_istore_n (lv' := [(2, .int (s1.2 + (0 : Int32))), (5, .int s1.1), (4, .int c_t_thing), (3, .int (0 : Int32)), (0, .ref a_t), (1, .int p1)]) hx hb dX8_manyNow_39 rfl hl (by decide) rfl (fun ls hl => ?_)
          refine lv_iinc (v := (s1.1 + (1 : Int32))) (lv' := [(5, .int (s1.1 + (1 : Int32))), (2, .int (s1.2 + (0 : Int32))), (4, .int c_t_thing), (3, .int (0 : Int32)), (0, .ref a_t), (1, .int p1)]) hx hb dX8_manyNow_40 hl (k := 1) rfl rfl (by decide) rfl (fun ls hl => ?_)
          refine lv_goto (tgt := 13) hx hb dX8_manyNow_43 (by decide) ?_
          exact ih1 ((s1.1 + (1 : Int32)), (s1.2 + (0 : Int32))) _ _ _ hP hD hS (lv_sub hl [0, 2, 3, 1, 4, 5] rfl) h
  exact LOOP1 1000 ((0 : Int32), (0 : Int32)) _ _ _ hP hD hS hl h
theorem mc_X8_sharpNow_X8 : ∀ w ∈ wsX80, w ∈ wsX8_sharpNow := by decide +kernel
theorem mf_X8_sharpNow_22 : Cond.fieldLink RX8 22 "LensbenchModel" "screen" "I" ∈ wsX8_sharpNow := by decide +kernel
abbrev rm_X8_sharpNow : Room := { frames := 4, cells := 0, slots := 0, locals := 103 }
set_option maxHeartbeats 4000000 in
set_option maxRecDepth 100000 in
theorem m_X8_sharpNow (l : Launch) (D : va_G) (cI cD cB : ClassId) (a_t : Nat) (a_t_place : Nat) (a_t_half : Nat) (a_t_power : Nat) (a_t_glass : Nat) (p1 : Int32) (c_t_thrown : Int32) (c_t_pieces : Int32) (c_t_thing : Int32) (c_t_screen : Int32) (c_t_tall : Int32) (c_t_refused : Int32) (c_t_height : UInt64) (c_t_slope : UInt64) (c_t_cut : Int32) (c_t_sum : Int64) (c_t_place : Nat → Int32) (c_t_half : Nat → Int32) (c_t_power : Nat → Int32) (c_t_glass : Nat → Int32) (R : Int32 × UInt64 × UInt64 × Int32) (h : f_X8_sharpNow p1 c_t_pieces c_t_thing c_t_screen c_t_tall c_t_refused c_t_height c_t_slope c_t_cut c_t_place c_t_half c_t_power c_t_glass = some R) : Ci l yX8_sharpNow wsX8_sharpNow rm_X8_sharpNow D (TT cI cD cB) [.ref a_t, .int p1] [(a_t, .inr (10, [.int c_t_thrown, .int c_t_pieces, .ref a_t_place, .ref a_t_half, .ref a_t_power, .ref a_t_glass, .int c_t_thing, .int c_t_screen, .int c_t_tall, .int c_t_refused, .double c_t_height, .double c_t_slope, .int c_t_cut, .long c_t_sum])), (a_t_place, .inl (cI, 8, .inl c_t_place)), (a_t_half, .inl (cI, 8, .inl c_t_half)), (a_t_power, .inl (cI, 8, .inl c_t_power)), (a_t_glass, .inl (cI, 8, .inl c_t_glass))] [(a_t, .inr (10, [.int c_t_thrown, .int c_t_pieces, .ref a_t_place, .ref a_t_half, .ref a_t_power, .ref a_t_glass, .int c_t_thing, .int c_t_screen, .int c_t_tall, .int c_t_refused, .double R.2.1, .double R.2.2.1, .int R.2.2.2, .long c_t_sum])), (a_t_place, .inl (cI, 8, .inl c_t_place)), (a_t_half, .inl (cI, 8, .inl c_t_half)), (a_t_power, .inl (cI, 8, .inl c_t_power)), (a_t_glass, .inl (cI, 8, .inl c_t_glass))] R.1 0 0 := by
  unfold f_X8_sharpNow at h
  refine st_i (cc := cX8_sharpNow) (maxL := 9) (by decide) rfl (Nat.le_of_ble_eq_true rfl) (fun p e s m av below meth c A Q ls hx hb hml hts hown hA hK hNM hZ hP hD hS hl hfin => ?_)
  have hown : s.vm.findClass RX8 = some m.cls := hown
  have hl : lv_has ls 9 [(0, .ref a_t), (1, .int p1)] := hl
  refine lv_aload_n hx hb dX8_sharpNow_0 rfl (lv_at hl 0 rfl) ?_
  refine va_get (D := D) (ci := 10) (v := .int c_t_screen) (C := RX8) (T := TX8) (N := 14) hx hb hts mc_X8_sharpNow_X8 hown hK hP 0 rfl rfl 7 (by decide) (hts _ mf_X8_sharpNow_22) (fun _ h9 => h9) rfl dX8_sharpNow_1 ?_
  refine lv_istore_n (lv' := [(2, .int c_t_screen), (0, .ref a_t), (1, .int p1)]) hx hb dX8_sharpNow_4 rfl hl (by decide) rfl (fun ls hl => ?_)
  refine lv_iconst (v := (-1 : Int32)) hx hb dX8_sharpNow_5 (by decide) ?_
  refine lv_istore_n (lv' := [(3, .int (-1 : Int32)), (2, .int c_t_screen), (0, .ref a_t), (1, .int p1)]) hx hb dX8_sharpNow_6 rfl hl (by decide) rfl (fun ls hl => ?_)
  refine lv_dconst0 hx hb dX8_sharpNow_7 ?_
  refine lv_dstore (lv' := [(4, .double FP.dconst0), (3, .int (-1 : Int32)), (2, .int c_t_screen), (0, .ref a_t), (1, .int p1)]) hx hb dX8_sharpNow_8 hl (by decide) rfl (fun ls hl => ?_)
  refine lv_aload_n hx hb dX8_sharpNow_10 rfl (lv_at hl 3 rfl) ?_
  refine lv_bipush (v := (8 : Int32)) hx hb dX8_sharpNow_11 (by decide) ?_
  obtain ⟨o1, e2, h⟩ := bd_e h
  refine co_i (W0 := [(a_t, .inr (10, [.int c_t_thrown, .int c_t_pieces, .ref a_t_place, .ref a_t_half, .ref a_t_power, .ref a_t_glass, .int c_t_thing, .int c_t_screen, .int c_t_tall, .int c_t_refused, .double c_t_height, .double c_t_slope, .int c_t_cut, .long c_t_sum])), (a_t_place, .inl (cI, 8, .inl c_t_place)), (a_t_half, .inl (cI, 8, .inl c_t_half)), (a_t_power, .inl (cI, 8, .inl c_t_power)), (a_t_glass, .inl (cI, 8, .inl c_t_glass))]) (wr := []) (W1 := [(a_t, .inr (10, [.int c_t_thrown, .int c_t_pieces, .ref a_t_place, .ref a_t_half, .ref a_t_power, .ref a_t_glass, .int c_t_thing, .int c_t_screen, .int c_t_tall, .int c_t_refused, .double o1.2.1, .double o1.2.2.1, .int o1.2.2.2, .long c_t_sum])), (a_t_place, .inl (cI, 8, .inl c_t_place)), (a_t_half, .inl (cI, 8, .inl c_t_half)), (a_t_power, .inl (cI, 8, .inl c_t_power)), (a_t_glass, .inl (cI, 8, .inl c_t_glass))]) (ws2 := [(a_t, .inr (10, [.int c_t_thrown, .int c_t_pieces, .ref a_t_place, .ref a_t_half, .ref a_t_power, .ref a_t_glass, .int c_t_thing, .int c_t_screen, .int c_t_tall, .int c_t_refused, .double o1.2.1, .double o1.2.2.1, .int o1.2.2.2, .long c_t_sum])), (a_t_place, .inl (cI, 8, .inl c_t_place)), (a_t_half, .inl (cI, 8, .inl c_t_half)), (a_t_power, .inl (cI, 8, .inl c_t_power)), (a_t_glass, .inl (cI, 8, .inl c_t_glass))]) (va_runV (C := RX8) (As := [.int (8 : Int32)]) (rest := []) ⟨hx, hb, hml, hown, hts⟩ (m_X8_manyNow l D cI cD cB a_t a_t_place a_t_half a_t_power a_t_glass (8 : Int32) c_t_thrown c_t_pieces c_t_thing c_t_screen c_t_tall c_t_refused c_t_height c_t_slope c_t_cut c_t_sum c_t_place c_t_half c_t_power c_t_glass o1 e2 _) (cwV 1 hts gX8_sharpNow_X8_manyNow rfl rfl rfl (by decide +kernel) ⟨Nat.le_of_ble_eq_true rfl, Nat.le_of_ble_eq_true rfl⟩) (my_preV (q := (RX8, TX8, 14)) (ci := 10) (q0 := 0) [0, 1, 2, 3, 4] hP hK hNM hZ hD hS hA rfl rfl rfl rfl) rfl rfl hl.1 rfl (lv_room (Nat.le_of_ble_eq_true rfl)) dX8_sharpNow_13 ⟨Nat.zero_le _, Nat.zero_le _⟩) hP hD hS hA [0, 1, 2, 3, 4] [] [0, 1, 2, 3, 4] rfl rfl rfl rfl rfl (by decide) (fun H locs hP hD hS => ?_)
  refine lv_iconst (v := (1 : Int32)) hx hb dX8_sharpNow_16 (by decide) ?_
  refine lv_iadd hx hb dX8_sharpNow_17 ?_
  refine lv_istore (lv' := [(6, .int (o1.1 + (1 : Int32))), (4, .double FP.dconst0), (3, .int (-1 : Int32)), (2, .int c_t_screen), (0, .ref a_t), (1, .int p1)]) hx hb dX8_sharpNow_18 hl (by decide) rfl (fun ls hl => ?_)
  have LOOP1 : ∀ (n1 : Nat) (s1 : Int32 × UInt64 × Int32 × Int32 × UInt64 × UInt64 × Int32) (H : Heap) (locs : List Loc) (ls : Array Slot), va_P D vwCl [(a_t, .inr (10, [.int c_t_thrown, .int c_t_pieces, .ref a_t_place, .ref a_t_half, .ref a_t_power, .ref a_t_glass, .int c_t_thing, .int s1.2.2.2.1, .int c_t_tall, .int c_t_refused, .double s1.2.2.2.2.1, .double s1.2.2.2.2.2.1, .int s1.2.2.2.2.2.2, .long c_t_sum])), (a_t_place, .inl (cI, 8, .inl c_t_place)), (a_t_half, .inl (cI, 8, .inl c_t_half)), (a_t_power, .inl (cI, 8, .inl c_t_power)), (a_t_glass, .inl (cI, 8, .inl c_t_glass))] H → va_D A [(a_t, .inr (10, [.int c_t_thrown, .int c_t_pieces, .ref a_t_place, .ref a_t_half, .ref a_t_power, .ref a_t_glass, .int c_t_thing, .int s1.2.2.2.1, .int c_t_tall, .int c_t_refused, .double s1.2.2.2.2.1, .double s1.2.2.2.2.2.1, .int s1.2.2.2.2.2.2, .long c_t_sum])), (a_t_place, .inl (cI, 8, .inl c_t_place)), (a_t_half, .inl (cI, 8, .inl c_t_half)), (a_t_power, .inl (cI, 8, .inl c_t_power)), (a_t_glass, .inl (cI, 8, .inl c_t_glass))] → va_S A s.heap H locs → lv_has ls 9 [(6, .int s1.1), (4, .double s1.2.1), (3, .int s1.2.2.1), (2, .int c_t_screen), (0, .ref a_t), (1, .int p1)] → lp (f_X8_sharpNow_b1 p1 c_t_pieces c_t_thing c_t_tall c_t_place c_t_half c_t_power c_t_glass) n1 s1 = some R → W p l e rm_X8_sharpNow s m av below meth c H locs 0 0 Q (F0 m 20 ls []) := by
    intro n1
    induction n1 with
    | zero => intro s1 H locs ls hP hD hS hl h; exact lp_0 h
    | succ n1 ih1 =>
      intro s1 H locs ls hP hD hS hl h
      replace h := lp_s h
      unfold f_X8_sharpNow_b1 at h
      refine lv_iload hx hb dX8_sharpNow_20 (lv_at hl 0 rfl) ?_
      refine lv_bipush (v := (100 : Int32)) hx hb dX8_sharpNow_22 (by decide) ?_
      refine lv_icmp_ge (tgt := 76) hx hb dX8_sharpNow_24 (by decide) (fun q3 => ?_) (fun q3 => ?_)
      · replace h := ifp h q3
        refine lv_aload_n hx hb dX8_sharpNow_76 rfl (lv_at hl 4 rfl) ?_
        refine lv_iload_n hx hb dX8_sharpNow_77 rfl (lv_at hl 3 rfl) ?_
        refine va_put (D := D) (ci := 10) (v := .int c_t_screen) (ty := .int) (C := RX8) (T := TX8) (N := 14) hx hb hts mc_X8_sharpNow_X8 tyX8 tyX8_ok nmX8 hown hK hP hD hS 0 rfl rfl 7 (by decide) (hts _ mf_X8_sharpNow_22) (fun _ h9 => h9) rfl (tyX8_ok 7 (by decide)) rfl rfl (Nat.le_of_ble_eq_true rfl) dX8_sharpNow_78 (fun H locs hP hD hS => ?_)
        have hP : va_P D vwCl [(a_t, .inr (10, [.int c_t_thrown, .int c_t_pieces, .ref a_t_place, .ref a_t_half, .ref a_t_power, .ref a_t_glass, .int c_t_thing, .int c_t_screen, .int c_t_tall, .int c_t_refused, .double s1.2.2.2.2.1, .double s1.2.2.2.2.2.1, .int s1.2.2.2.2.2.2, .long c_t_sum])), (a_t_place, .inl (cI, 8, .inl c_t_place)), (a_t_half, .inl (cI, 8, .inl c_t_half)), (a_t_power, .inl (cI, 8, .inl c_t_power)), (a_t_glass, .inl (cI, 8, .inl c_t_glass))] H := hP
        have hD : va_D A [(a_t, .inr (10, [.int c_t_thrown, .int c_t_pieces, .ref a_t_place, .ref a_t_half, .ref a_t_power, .ref a_t_glass, .int c_t_thing, .int c_t_screen, .int c_t_tall, .int c_t_refused, .double s1.2.2.2.2.1, .double s1.2.2.2.2.2.1, .int s1.2.2.2.2.2.2, .long c_t_sum])), (a_t_place, .inl (cI, 8, .inl c_t_place)), (a_t_half, .inl (cI, 8, .inl c_t_half)), (a_t_power, .inl (cI, 8, .inl c_t_power)), (a_t_glass, .inl (cI, 8, .inl c_t_glass))] := hD
        refine lv_iload_n hx hb dX8_sharpNow_81 rfl (lv_at hl 2 rfl) ?_
        rw [← some_e h] at hfin
        exact hfin 82 _ _ _ dX8_sharpNow_82 rfl hP hD hS
      · replace h := ifn h q3
        refine lv_aload_n hx hb dX8_sharpNow_27 rfl (lv_at hl 4 rfl) ?_
        refine lv_iload hx hb dX8_sharpNow_28 (lv_at hl 0 rfl) ?_
        refine va_put (D := D) (ci := 10) (v := .int s1.1) (ty := .int) (C := RX8) (T := TX8) (N := 14) hx hb hts mc_X8_sharpNow_X8 tyX8 tyX8_ok nmX8 hown hK hP hD hS 0 rfl rfl 7 (by decide) (hts _ mf_X8_sharpNow_22) (fun _ h9 => h9) rfl (tyX8_ok 7 (by decide)) rfl rfl (Nat.le_of_ble_eq_true rfl) dX8_sharpNow_30 (fun H locs hP hD hS => ?_)
        have hP : va_P D vwCl [(a_t, .inr (10, [.int c_t_thrown, .int c_t_pieces, .ref a_t_place, .ref a_t_half, .ref a_t_power, .ref a_t_glass, .int c_t_thing, .int s1.1, .int c_t_tall, .int c_t_refused, .double s1.2.2.2.2.1, .double s1.2.2.2.2.2.1, .int s1.2.2.2.2.2.2, .long c_t_sum])), (a_t_place, .inl (cI, 8, .inl c_t_place)), (a_t_half, .inl (cI, 8, .inl c_t_half)), (a_t_power, .inl (cI, 8, .inl c_t_power)), (a_t_glass, .inl (cI, 8, .inl c_t_glass))] H := hP
        have hD : va_D A [(a_t, .inr (10, [.int c_t_thrown, .int c_t_pieces, .ref a_t_place, .ref a_t_half, .ref a_t_power, .ref a_t_glass, .int c_t_thing, .int s1.1, .int c_t_tall, .int c_t_refused, .double s1.2.2.2.2.1, .double s1.2.2.2.2.2.1, .int s1.2.2.2.2.2.2, .long c_t_sum])), (a_t_place, .inl (cI, 8, .inl c_t_place)), (a_t_half, .inl (cI, 8, .inl c_t_half)), (a_t_power, .inl (cI, 8, .inl c_t_power)), (a_t_glass, .inl (cI, 8, .inl c_t_glass))] := hD
        refine lv_aload_n hx hb dX8_sharpNow_33 rfl (lv_at hl 4 rfl) ?_
        refine lv_iload_n hx hb dX8_sharpNow_34 rfl (lv_at hl 5 rfl) ?_
        obtain ⟨o4, e5, h⟩ := bd_e h
        refine co_d (W0 := [(a_t, .inr (10, [.int c_t_thrown, .int c_t_pieces, .ref a_t_place, .ref a_t_half, .ref a_t_power, .ref a_t_glass, .int c_t_thing, .int s1.1, .int c_t_tall, .int c_t_refused, .double s1.2.2.2.2.1, .double s1.2.2.2.2.2.1, .int s1.2.2.2.2.2.2, .long c_t_sum])), (a_t_place, .inl (cI, 8, .inl c_t_place)), (a_t_half, .inl (cI, 8, .inl c_t_half)), (a_t_power, .inl (cI, 8, .inl c_t_power)), (a_t_glass, .inl (cI, 8, .inl c_t_glass))]) (wr := []) (W1 := [(a_t, .inr (10, [.int c_t_thrown, .int c_t_pieces, .ref a_t_place, .ref a_t_half, .ref a_t_power, .ref a_t_glass, .int c_t_thing, .int s1.1, .int c_t_tall, .int c_t_refused, .double o4.2.1, .double o4.2.2.1, .int o4.2.2.2, .long c_t_sum])), (a_t_place, .inl (cI, 8, .inl c_t_place)), (a_t_half, .inl (cI, 8, .inl c_t_half)), (a_t_power, .inl (cI, 8, .inl c_t_power)), (a_t_glass, .inl (cI, 8, .inl c_t_glass))]) (ws2 := [(a_t, .inr (10, [.int c_t_thrown, .int c_t_pieces, .ref a_t_place, .ref a_t_half, .ref a_t_power, .ref a_t_glass, .int c_t_thing, .int s1.1, .int c_t_tall, .int c_t_refused, .double o4.2.1, .double o4.2.2.1, .int o4.2.2.2, .long c_t_sum])), (a_t_place, .inl (cI, 8, .inl c_t_place)), (a_t_half, .inl (cI, 8, .inl c_t_half)), (a_t_power, .inl (cI, 8, .inl c_t_power)), (a_t_glass, .inl (cI, 8, .inl c_t_glass))]) (va_runV (C := RX8) (As := [.int p1]) (rest := []) ⟨hx, hb, hml, hown, hts⟩ (m_X8_blurNow l D cI cD cB a_t a_t_place a_t_half a_t_power a_t_glass p1 c_t_thrown c_t_pieces c_t_thing s1.1 c_t_tall c_t_refused s1.2.2.2.2.1 s1.2.2.2.2.2.1 s1.2.2.2.2.2.2 c_t_sum c_t_place c_t_half c_t_power c_t_glass o4 e5 _) (cwV 1 hts gX8_sharpNow_X8_blurNow rfl rfl rfl (by decide +kernel) ⟨Nat.le_of_ble_eq_true rfl, Nat.le_of_ble_eq_true rfl⟩) (my_preV (q := (RX8, TX8, 14)) (ci := 10) (q0 := 0) [0, 1, 2, 3, 4] hP hK hNM hZ hD hS hA rfl rfl rfl rfl) rfl rfl hl.1 rfl (lv_room (Nat.le_of_ble_eq_true rfl)) dX8_sharpNow_35 ⟨Nat.zero_le _, Nat.zero_le _⟩) hP hD hS hA [0, 1, 2, 3, 4] [] [0, 1, 2, 3, 4] rfl rfl rfl rfl rfl (by decide) (fun H locs hP hD hS => ?_)
        refine lv_dstore (lv' := [(7, .double o4.1), (6, .int s1.1), (4, .double s1.2.1), (3, .int s1.2.2.1), (2, .int c_t_screen), (0, .ref a_t), (1, .int p1)]) hx hb dX8_sharpNow_38 hl (by decide) rfl (fun ls hl => ?_)
        refine lv_dload hx hb dX8_sharpNow_40 (lv_at hl 0 rfl) ?_
        refine lv_dconst0 hx hb dX8_sharpNow_42 ?_
        refine lv_dcmp hx hb dX8_sharpNow_43 ?_
        refine lv_if_lt (tgt := 70) hx hb dX8_sharpNow_44 (by decide) (fun q6 => ?_) (fun q6 => ?_)
        · replace h := ifp h q6
          refine lv_iinc (v := (s1.1 + (1 : Int32))) (lv' := [(6, .int (s1.1 + (1 : Int32))), (7, .double o4.1), (4, .double s1.2.1), (3, .int s1.2.2.1), (2, .int c_t_screen), (0, .ref a_t), (1, .int p1)]) hx hb dX8_sharpNow_70 hl (k := 1) rfl rfl (by decide) rfl (fun ls hl => ?_)
          refine lv_goto (tgt := 20) hx hb dX8_sharpNow_73 (by decide) ?_
          exact ih1 ((s1.1 + (1 : Int32)), s1.2.1, s1.2.2.1, s1.1, o4.2.1, o4.2.2.1, o4.2.2.2) _ _ _ hP hD hS (lv_sub hl [0, 2, 3, 4, 5, 6] rfl) h
        · replace h := ifn h q6
          refine lv_iload_n hx hb dX8_sharpNow_47 rfl (lv_at hl 3 rfl) ?_
          refine lv_iconst (v := (-1 : Int32)) hx hb dX8_sharpNow_48 (by decide) ?_
          refine lv_icmp_eq (tgt := 63) hx hb dX8_sharpNow_49 (by decide) (fun q7 => ?_) (fun q7 => ?_)
          · replace h := ifp h q7
            refine lv_iload hx hb dX8_sharpNow_63 (lv_at hl 1 rfl) ?_
            refine lv_istore_n (lv' := [(3, .int s1.1), (7, .double o4.1), (6, .int s1.1), (4, .double s1.2.1), (2, .int c_t_screen), (0, .ref a_t), (1, .int p1)]) hx hb dX8_sharpNow_65 rfl hl (by decide) rfl (fun ls hl => ?_)
            refine lv_dload hx hb dX8_sharpNow_66 (lv_at hl 1 rfl) ?_
            refine lv_dstore (lv' := [(4, .double o4.1), (3, .int s1.1), (7, .double o4.1), (6, .int s1.1), (2, .int c_t_screen), (0, .ref a_t), (1, .int p1)]) hx hb dX8_sharpNow_68 hl (by decide) rfl (fun ls hl => ?_)
            refine lv_iinc (v := (s1.1 + (1 : Int32))) (lv' := [(6, .int (s1.1 + (1 : Int32))), (4, .double o4.1), (3, .int s1.1), (7, .double o4.1), (2, .int c_t_screen), (0, .ref a_t), (1, .int p1)]) hx hb dX8_sharpNow_70 hl (k := 3) rfl rfl (by decide) rfl (fun ls hl => ?_)
            refine lv_goto (tgt := 20) hx hb dX8_sharpNow_73 (by decide) ?_
            exact ih1 ((s1.1 + (1 : Int32)), o4.1, s1.1, s1.1, o4.2.1, o4.2.2.1, o4.2.2.2) _ _ _ hP hD hS (lv_sub hl [0, 1, 2, 4, 5, 6] rfl) h
          · replace h := ifn h q7
            refine lv_dload hx hb dX8_sharpNow_52 (lv_at hl 0 rfl) ?_
            refine lv_dload hx hb dX8_sharpNow_54 (lv_at hl 2 rfl) ?_
            refine lv_dcmp hx hb dX8_sharpNow_56 ?_
            refine lv_if_lt (tgt := 63) hx hb dX8_sharpNow_57 (by decide) (fun q8 => ?_) (fun q8 => ?_)
            · replace h := ifp h q8
              refine lv_iload hx hb dX8_sharpNow_63 (lv_at hl 1 rfl) ?_
              refine lv_istore_n (lv' := [(3, .int s1.1), (7, .double o4.1), (6, .int s1.1), (4, .double s1.2.1), (2, .int c_t_screen), (0, .ref a_t), (1, .int p1)]) hx hb dX8_sharpNow_65 rfl hl (by decide) rfl (fun ls hl => ?_)
              refine lv_dload hx hb dX8_sharpNow_66 (lv_at hl 1 rfl) ?_
              refine lv_dstore (lv' := [(4, .double o4.1), (3, .int s1.1), (7, .double o4.1), (6, .int s1.1), (2, .int c_t_screen), (0, .ref a_t), (1, .int p1)]) hx hb dX8_sharpNow_68 hl (by decide) rfl (fun ls hl => ?_)
              refine lv_iinc (v := (s1.1 + (1 : Int32))) (lv' := [(6, .int (s1.1 + (1 : Int32))), (4, .double o4.1), (3, .int s1.1), (7, .double o4.1), (2, .int c_t_screen), (0, .ref a_t), (1, .int p1)]) hx hb dX8_sharpNow_70 hl (k := 3) rfl rfl (by decide) rfl (fun ls hl => ?_)
              refine lv_goto (tgt := 20) hx hb dX8_sharpNow_73 (by decide) ?_
              exact ih1 ((s1.1 + (1 : Int32)), o4.1, s1.1, s1.1, o4.2.1, o4.2.2.1, o4.2.2.2) _ _ _ hP hD hS (lv_sub hl [0, 1, 2, 4, 5, 6] rfl) h
            · replace h := ifn h q8
              refine lv_goto (tgt := 70) hx hb dX8_sharpNow_60 (by decide) ?_
              refine lv_iinc (v := (s1.1 + (1 : Int32))) (lv' := [(6, .int (s1.1 + (1 : Int32))), (7, .double o4.1), (4, .double s1.2.1), (3, .int s1.2.2.1), (2, .int c_t_screen), (0, .ref a_t), (1, .int p1)]) hx hb dX8_sharpNow_70 hl (k := 1) rfl rfl (by decide) rfl (fun ls hl => ?_)
              refine lv_goto (tgt := 20) hx hb dX8_sharpNow_73 (by decide) ?_
              exact ih1 ((s1.1 + (1 : Int32)), s1.2.1, s1.2.2.1, s1.1, o4.2.1, o4.2.2.1, o4.2.2.2) _ _ _ hP hD hS (lv_sub hl [0, 2, 3, 4, 5, 6] rfl) h
  exact LOOP1 1000 ((o1.1 + (1 : Int32)), FP.dconst0, (-1 : Int32), c_t_screen, o1.2.1, o1.2.2.1, o1.2.2.2) _ _ _ hP hD hS hl h
theorem mc_X8_rayNow_X8 : ∀ w ∈ wsX80, w ∈ wsX8_rayNow := by decide +kernel
theorem mf_X8_rayNow_66 : Cond.fieldLink RX8 66 "LensbenchModel" "height" "D" ∈ wsX8_rayNow := by decide +kernel
theorem mf_X8_rayNow_70 : Cond.fieldLink RX8 70 "LensbenchModel" "slope" "D" ∈ wsX8_rayNow := by decide +kernel
theorem mf_X8_rayNow_73 : Cond.fieldLink RX8 73 "LensbenchModel" "cut" "I" ∈ wsX8_rayNow := by decide +kernel
theorem mk_X8_rayNow_39 : Cond.constantDouble RX8 39 (4636737291354636288) ∈ wsX8_rayNow := by decide +kernel
theorem mk_X8_rayNow_89 : Cond.constantDouble RX8 89 (4616189618054758400) ∈ wsX8_rayNow := by decide +kernel
abbrev rm_X8_rayNow : Room := { frames := 2, cells := 0, slots := 0, locals := 55 }
set_option maxHeartbeats 4000000 in
set_option maxRecDepth 100000 in
theorem m_X8_rayNow (l : Launch) (D : va_G) (cI cD cB : ClassId) (a_t : Nat) (a_t_place : Nat) (a_t_half : Nat) (a_t_power : Nat) (a_t_glass : Nat) (p1 : Int32) (p2 : Int32) (p3 : Int32) (p4 : Int32) (c_t_thrown : Int32) (c_t_pieces : Int32) (c_t_thing : Int32) (c_t_screen : Int32) (c_t_tall : Int32) (c_t_refused : Int32) (c_t_height : UInt64) (c_t_slope : UInt64) (c_t_cut : Int32) (c_t_sum : Int64) (c_t_place : Nat → Int32) (c_t_half : Nat → Int32) (c_t_power : Nat → Int32) (c_t_glass : Nat → Int32) (R : UInt64 × UInt64 × UInt64 × Int32) (h : f_X8_rayNow p1 p2 p3 p4 c_t_pieces c_t_thing c_t_screen c_t_place c_t_half c_t_power c_t_glass = some R) : Cd l yX8_rayNow wsX8_rayNow rm_X8_rayNow D (TT cI cD cB) [.ref a_t, .int p1, .int p2, .int p3, .int p4] [(a_t, .inr (10, [.int c_t_thrown, .int c_t_pieces, .ref a_t_place, .ref a_t_half, .ref a_t_power, .ref a_t_glass, .int c_t_thing, .int c_t_screen, .int c_t_tall, .int c_t_refused, .double c_t_height, .double c_t_slope, .int c_t_cut, .long c_t_sum])), (a_t_place, .inl (cI, 8, .inl c_t_place)), (a_t_half, .inl (cI, 8, .inl c_t_half)), (a_t_power, .inl (cI, 8, .inl c_t_power)), (a_t_glass, .inl (cI, 8, .inl c_t_glass))] [(a_t, .inr (10, [.int c_t_thrown, .int c_t_pieces, .ref a_t_place, .ref a_t_half, .ref a_t_power, .ref a_t_glass, .int c_t_thing, .int c_t_screen, .int c_t_tall, .int c_t_refused, .double R.2.1, .double R.2.2.1, .int R.2.2.2, .long c_t_sum])), (a_t_place, .inl (cI, 8, .inl c_t_place)), (a_t_half, .inl (cI, 8, .inl c_t_half)), (a_t_power, .inl (cI, 8, .inl c_t_power)), (a_t_glass, .inl (cI, 8, .inl c_t_glass))] R.1 0 0 := by
  unfold f_X8_rayNow at h
  refine st_d (cc := cX8_rayNow) (maxL := 5) (by decide) rfl (Nat.le_of_ble_eq_true rfl) (fun p e s m av below meth c A Q ls hx hb hml hts hown hA hK hNM hZ hP hD hS hl hfin => ?_)
  have hown : s.vm.findClass RX8 = some m.cls := hown
  have hl : lv_has ls 5 [(0, .ref a_t), (1, .int p1), (2, .int p2), (3, .int p3), (4, .int p4)] := hl
  refine lv_aload_n hx hb dX8_rayNow_0 rfl (lv_at hl 0 rfl) ?_
  refine lv_iload_n hx hb dX8_rayNow_1 rfl (lv_at hl 1 rfl) ?_
  refine lv_i2d hx hb dX8_rayNow_2 ?_
  refine lv_ldc2d hx hb hown (hts _ mk_X8_rayNow_89) dX8_rayNow_3 ?_
  obtain ⟨g1, h⟩ := gd_e h
  refine lv_ddiv hx hb dX8_rayNow_6 (n64_n g1) ?_
  refine lv_iload_n hx hb dX8_rayNow_7 rfl (lv_at hl 2 rfl) ?_
  refine lv_i2d hx hb dX8_rayNow_8 ?_
  refine lv_ldc2d hx hb hown (hts _ mk_X8_rayNow_39) dX8_rayNow_9 ?_
  obtain ⟨g2, h⟩ := gd_e h
  refine lv_ddiv hx hb dX8_rayNow_12 (n64_n g2) ?_
  refine lv_iload_n hx hb dX8_rayNow_13 rfl (lv_at hl 3 rfl) ?_
  refine lv_iconst (v := (-1 : Int32)) hx hb dX8_rayNow_14 (by decide) ?_
  obtain ⟨o3, e4, h⟩ := bd_e h
  refine co_v (W0 := [(a_t, .inr (10, [.int c_t_thrown, .int c_t_pieces, .ref a_t_place, .ref a_t_half, .ref a_t_power, .ref a_t_glass, .int c_t_thing, .int c_t_screen, .int c_t_tall, .int c_t_refused, .double c_t_height, .double c_t_slope, .int c_t_cut, .long c_t_sum])), (a_t_place, .inl (cI, 8, .inl c_t_place)), (a_t_half, .inl (cI, 8, .inl c_t_half)), (a_t_power, .inl (cI, 8, .inl c_t_power)), (a_t_glass, .inl (cI, 8, .inl c_t_glass))]) (wr := []) (W1 := [(a_t, .inr (10, [.int c_t_thrown, .int c_t_pieces, .ref a_t_place, .ref a_t_half, .ref a_t_power, .ref a_t_glass, .int c_t_thing, .int c_t_screen, .int c_t_tall, .int c_t_refused, .double o3.1, .double o3.2.1, .int o3.2.2, .long c_t_sum])), (a_t_place, .inl (cI, 8, .inl c_t_place)), (a_t_half, .inl (cI, 8, .inl c_t_half)), (a_t_power, .inl (cI, 8, .inl c_t_power)), (a_t_glass, .inl (cI, 8, .inl c_t_glass))]) (ws2 := [(a_t, .inr (10, [.int c_t_thrown, .int c_t_pieces, .ref a_t_place, .ref a_t_half, .ref a_t_power, .ref a_t_glass, .int c_t_thing, .int c_t_screen, .int c_t_tall, .int c_t_refused, .double o3.1, .double o3.2.1, .int o3.2.2, .long c_t_sum])), (a_t_place, .inl (cI, 8, .inl c_t_place)), (a_t_half, .inl (cI, 8, .inl c_t_half)), (a_t_power, .inl (cI, 8, .inl c_t_power)), (a_t_glass, .inl (cI, 8, .inl c_t_glass))]) (va_runV (C := RX8) (As := [.double (FP.ddiv (FP.i2d p1) (4616189618054758400 : UInt64)), .double (FP.ddiv (FP.i2d p2) (4636737291354636288 : UInt64)), .int p3, .int (-1 : Int32)]) (rest := []) ⟨hx, hb, hml, hown, hts⟩ (m_X8_go l D cI cD cB a_t a_t_place a_t_half a_t_power a_t_glass (FP.ddiv (FP.i2d p1) (4616189618054758400 : UInt64)) (FP.ddiv (FP.i2d p2) (4636737291354636288 : UInt64)) p3 (-1 : Int32) c_t_thrown c_t_pieces c_t_thing c_t_screen c_t_tall c_t_refused c_t_height c_t_slope c_t_cut c_t_sum c_t_place c_t_half c_t_power c_t_glass o3 e4 _) (cwV 4 hts gX8_rayNow_X8_go rfl rfl rfl (by decide +kernel) ⟨Nat.le_of_ble_eq_true rfl, Nat.le_of_ble_eq_true rfl⟩) (my_preV (q := (RX8, TX8, 14)) (ci := 10) (q0 := 0) [0, 1, 2, 3, 4] hP hK hNM hZ hD hS hA rfl rfl rfl rfl) rfl rfl hl.1 rfl (lv_room (Nat.le_of_ble_eq_true rfl)) dX8_rayNow_15 ⟨Nat.zero_le _, Nat.zero_le _⟩) hP hD hS hA [0, 1, 2, 3, 4] [] [0, 1, 2, 3, 4] rfl rfl rfl rfl rfl (by decide) (fun H locs hP hD hS => ?_)
  refine lv_iload hx hb dX8_rayNow_18 (lv_at hl 4 rfl) ?_
  refine lv_if_ne (tgt := 30) hx hb dX8_rayNow_20 (by decide) (fun q5 => ?_) (fun q5 => ?_)
  · replace h := ifn h q5
    refine lv_iload hx hb dX8_rayNow_30 (lv_at hl 4 rfl) ?_
    refine lv_iconst (v := (1 : Int32)) hx hb dX8_rayNow_32 (by decide) ?_
    refine lv_icmp_ne (tgt := 43) hx hb dX8_rayNow_33 (by decide) (fun q6 => ?_) (fun q6 => ?_)
    · replace h := ifn h q6
      refine lv_aload_n hx hb dX8_rayNow_43 rfl (lv_at hl 0 rfl) ?_
      refine va_get (D := D) (ci := 10) (v := .int o3.2.2) (C := RX8) (T := TX8) (N := 14) hx hb hts mc_X8_rayNow_X8 hown hK hP 0 rfl rfl 12 (by decide) (hts _ mf_X8_rayNow_73) (fun _ h9 => h9) rfl dX8_rayNow_44 ?_
      refine lv_i2d hx hb dX8_rayNow_47 ?_
      obtain ⟨o7, e8, h⟩ := bd_e h
      refine co_d (W0 := []) (wr := [(a_t, .inr (10, [.int c_t_thrown, .int c_t_pieces, .ref a_t_place, .ref a_t_half, .ref a_t_power, .ref a_t_glass, .int c_t_thing, .int c_t_screen, .int c_t_tall, .int c_t_refused, .double o3.1, .double o3.2.1, .int o3.2.2, .long c_t_sum])), (a_t_place, .inl (cI, 8, .inl c_t_place)), (a_t_half, .inl (cI, 8, .inl c_t_half)), (a_t_power, .inl (cI, 8, .inl c_t_power)), (a_t_glass, .inl (cI, 8, .inl c_t_glass))]) (W1 := []) (ws2 := [(a_t, .inr (10, [.int c_t_thrown, .int c_t_pieces, .ref a_t_place, .ref a_t_half, .ref a_t_power, .ref a_t_glass, .int c_t_thing, .int c_t_screen, .int c_t_tall, .int c_t_refused, .double o3.1, .double o3.2.1, .int o3.2.2, .long c_t_sum])), (a_t_place, .inl (cI, 8, .inl c_t_place)), (a_t_half, .inl (cI, 8, .inl c_t_half)), (a_t_power, .inl (cI, 8, .inl c_t_power)), (a_t_glass, .inl (cI, 8, .inl c_t_glass))]) (va_runS (As := [.double (FP.i2d o3.2.2)]) (rest := []) ⟨hx, hb, hml, hown, hts⟩ (m_X8_plain l D cI cD cB (FP.i2d o3.2.2) o7 e8 _) (va_cwS 1 hts gX8_rayNow_X8_plain rfl rfl rfl (by decide +kernel) ⟨Nat.le_of_ble_eq_true rfl, Nat.le_of_ble_eq_true rfl⟩) (my_preS [] hP hK hNM hZ hD hS hA rfl rfl) rfl rfl hl.1 rfl (lv_room (Nat.le_of_ble_eq_true rfl)) dX8_rayNow_48 ⟨Nat.zero_le _, Nat.zero_le _⟩) hP hD hS hA [] [0, 1, 2, 3, 4] [0, 1, 2, 3, 4] rfl rfl rfl rfl rfl (by decide) (fun H locs hP hD hS => ?_)
      rw [← some_e h] at hfin
      exact hfin 51 _ _ _ dX8_rayNow_51 hP hD hS
    · replace h := ifp h q6
      refine lv_aload_n hx hb dX8_rayNow_36 rfl (lv_at hl 0 rfl) ?_
      refine va_get (D := D) (ci := 10) (v := .double o3.2.1) (C := RX8) (T := TX8) (N := 14) hx hb hts mc_X8_rayNow_X8 hown hK hP 0 rfl rfl 11 (by decide) (hts _ mf_X8_rayNow_70) (fun _ h9 => h9) rfl dX8_rayNow_37 ?_
      refine lv_goto (tgt := 48) hx hb dX8_rayNow_40 (by decide) ?_
      obtain ⟨o9, e10, h⟩ := bd_e h
      refine co_d (W0 := []) (wr := [(a_t, .inr (10, [.int c_t_thrown, .int c_t_pieces, .ref a_t_place, .ref a_t_half, .ref a_t_power, .ref a_t_glass, .int c_t_thing, .int c_t_screen, .int c_t_tall, .int c_t_refused, .double o3.1, .double o3.2.1, .int o3.2.2, .long c_t_sum])), (a_t_place, .inl (cI, 8, .inl c_t_place)), (a_t_half, .inl (cI, 8, .inl c_t_half)), (a_t_power, .inl (cI, 8, .inl c_t_power)), (a_t_glass, .inl (cI, 8, .inl c_t_glass))]) (W1 := []) (ws2 := [(a_t, .inr (10, [.int c_t_thrown, .int c_t_pieces, .ref a_t_place, .ref a_t_half, .ref a_t_power, .ref a_t_glass, .int c_t_thing, .int c_t_screen, .int c_t_tall, .int c_t_refused, .double o3.1, .double o3.2.1, .int o3.2.2, .long c_t_sum])), (a_t_place, .inl (cI, 8, .inl c_t_place)), (a_t_half, .inl (cI, 8, .inl c_t_half)), (a_t_power, .inl (cI, 8, .inl c_t_power)), (a_t_glass, .inl (cI, 8, .inl c_t_glass))]) (va_runS (As := [.double o3.2.1]) (rest := []) ⟨hx, hb, hml, hown, hts⟩ (m_X8_plain l D cI cD cB o3.2.1 o9 e10 _) (va_cwS 1 hts gX8_rayNow_X8_plain rfl rfl rfl (by decide +kernel) ⟨Nat.le_of_ble_eq_true rfl, Nat.le_of_ble_eq_true rfl⟩) (my_preS [] hP hK hNM hZ hD hS hA rfl rfl) rfl rfl hl.1 rfl (lv_room (Nat.le_of_ble_eq_true rfl)) dX8_rayNow_48 ⟨Nat.zero_le _, Nat.zero_le _⟩) hP hD hS hA [] [0, 1, 2, 3, 4] [0, 1, 2, 3, 4] rfl rfl rfl rfl rfl (by decide) (fun H locs hP hD hS => ?_)
      rw [← some_e h] at hfin
      exact hfin 51 _ _ _ dX8_rayNow_51 hP hD hS
  · replace h := ifp h q5
    refine lv_aload_n hx hb dX8_rayNow_23 rfl (lv_at hl 0 rfl) ?_
    refine va_get (D := D) (ci := 10) (v := .double o3.1) (C := RX8) (T := TX8) (N := 14) hx hb hts mc_X8_rayNow_X8 hown hK hP 0 rfl rfl 10 (by decide) (hts _ mf_X8_rayNow_66) (fun _ h9 => h9) rfl dX8_rayNow_24 ?_
    refine lv_goto (tgt := 48) hx hb dX8_rayNow_27 (by decide) ?_
    obtain ⟨o11, e12, h⟩ := bd_e h
    refine co_d (W0 := []) (wr := [(a_t, .inr (10, [.int c_t_thrown, .int c_t_pieces, .ref a_t_place, .ref a_t_half, .ref a_t_power, .ref a_t_glass, .int c_t_thing, .int c_t_screen, .int c_t_tall, .int c_t_refused, .double o3.1, .double o3.2.1, .int o3.2.2, .long c_t_sum])), (a_t_place, .inl (cI, 8, .inl c_t_place)), (a_t_half, .inl (cI, 8, .inl c_t_half)), (a_t_power, .inl (cI, 8, .inl c_t_power)), (a_t_glass, .inl (cI, 8, .inl c_t_glass))]) (W1 := []) (ws2 := [(a_t, .inr (10, [.int c_t_thrown, .int c_t_pieces, .ref a_t_place, .ref a_t_half, .ref a_t_power, .ref a_t_glass, .int c_t_thing, .int c_t_screen, .int c_t_tall, .int c_t_refused, .double o3.1, .double o3.2.1, .int o3.2.2, .long c_t_sum])), (a_t_place, .inl (cI, 8, .inl c_t_place)), (a_t_half, .inl (cI, 8, .inl c_t_half)), (a_t_power, .inl (cI, 8, .inl c_t_power)), (a_t_glass, .inl (cI, 8, .inl c_t_glass))]) (va_runS (As := [.double o3.1]) (rest := []) ⟨hx, hb, hml, hown, hts⟩ (m_X8_plain l D cI cD cB o3.1 o11 e12 _) (va_cwS 1 hts gX8_rayNow_X8_plain rfl rfl rfl (by decide +kernel) ⟨Nat.le_of_ble_eq_true rfl, Nat.le_of_ble_eq_true rfl⟩) (my_preS [] hP hK hNM hZ hD hS hA rfl rfl) rfl rfl hl.1 rfl (lv_room (Nat.le_of_ble_eq_true rfl)) dX8_rayNow_48 ⟨Nat.zero_le _, Nat.zero_le _⟩) hP hD hS hA [] [0, 1, 2, 3, 4] [0, 1, 2, 3, 4] rfl rfl rfl rfl rfl (by decide) (fun H locs hP hD hS => ?_)
    rw [← some_e h] at hfin
    exact hfin 51 _ _ _ dX8_rayNow_51 hP hD hS
theorem mk_X8_imageNow_115 : Cond.constantDouble RX8 115 (4517329193108106637) ∈ wsX8_imageNow := by decide +kernel
theorem mmc_X8_imageNow_79 : Cond.code yJ9_abs_294c1 cJ9_abs_294c1 2 (some .double) ∈ wsX8_imageNow := by decide +kernel
theorem mmi_X8_imageNow_79 : Cond.initialized RJ9 ∈ wsX8_imageNow := by decide +kernel
theorem mml_X8_imageNow_79 : Cond.methodLink RX8 79 yJ9_abs_294c1 ∈ wsX8_imageNow := by decide +kernel
theorem mms_X8_imageNow_79 : Cond.static yJ9_abs_294c1 ∈ wsX8_imageNow := by decide +kernel
abbrev rm_X8_imageNow : Room := { frames := 3, cells := 0, slots := 0, locals := 82 }
set_option maxHeartbeats 4000000 in
set_option maxRecDepth 100000 in
theorem m_X8_imageNow (l : Launch) (D : va_G) (cI cD cB : ClassId) (a_t : Nat) (a_t_place : Nat) (a_t_half : Nat) (a_t_power : Nat) (a_t_glass : Nat) (p1 : Int32) (p2 : Int32) (c_t_thrown : Int32) (c_t_pieces : Int32) (c_t_thing : Int32) (c_t_screen : Int32) (c_t_tall : Int32) (c_t_refused : Int32) (c_t_height : UInt64) (c_t_slope : UInt64) (c_t_cut : Int32) (c_t_sum : Int64) (c_t_place : Nat → Int32) (c_t_power : Nat → Int32) (c_t_glass : Nat → Int32) (R : UInt64) (h : f_X8_imageNow p1 p2 c_t_pieces c_t_thing c_t_screen c_t_place c_t_power c_t_glass = some R) : Cd l yX8_imageNow wsX8_imageNow rm_X8_imageNow D (TT cI cD cB) [.ref a_t, .int p1, .int p2] [(a_t, .inr (10, [.int c_t_thrown, .int c_t_pieces, .ref a_t_place, .ref a_t_half, .ref a_t_power, .ref a_t_glass, .int c_t_thing, .int c_t_screen, .int c_t_tall, .int c_t_refused, .double c_t_height, .double c_t_slope, .int c_t_cut, .long c_t_sum])), (a_t_place, .inl (cI, 8, .inl c_t_place)), (a_t_power, .inl (cI, 8, .inl c_t_power)), (a_t_glass, .inl (cI, 8, .inl c_t_glass))] [(a_t, .inr (10, [.int c_t_thrown, .int c_t_pieces, .ref a_t_place, .ref a_t_half, .ref a_t_power, .ref a_t_glass, .int c_t_thing, .int c_t_screen, .int c_t_tall, .int c_t_refused, .double c_t_height, .double c_t_slope, .int c_t_cut, .long c_t_sum])), (a_t_place, .inl (cI, 8, .inl c_t_place)), (a_t_power, .inl (cI, 8, .inl c_t_power)), (a_t_glass, .inl (cI, 8, .inl c_t_glass))] R 0 0 := by
  unfold f_X8_imageNow at h
  refine st_d (cc := cX8_imageNow) (maxL := 5) (by decide) rfl (Nat.le_of_ble_eq_true rfl) (fun p e s m av below meth c A Q ls hx hb hml hts hown hA hK hNM hZ hP hD hS hl hfin => ?_)
  have hown : s.vm.findClass RX8 = some m.cls := hown
  have hl : lv_has ls 5 [(0, .ref a_t), (1, .int p1), (2, .int p2)] := hl
  refine lv_iload_n hx hb dX8_imageNow_0 rfl (lv_at hl 2 rfl) ?_
  refine lv_iconst (v := (4 : Int32)) hx hb dX8_imageNow_1 (by decide) ?_
  refine lv_icmp_ne (tgt := 35) hx hb dX8_imageNow_2 (by decide) (fun q1 => ?_) (fun q1 => ?_)
  · replace h := ifn h q1
    refine lv_aload_n hx hb dX8_imageNow_35 rfl (lv_at hl 0 rfl) ?_
    refine lv_iload_n hx hb dX8_imageNow_36 rfl (lv_at hl 1 rfl) ?_
    obtain ⟨o2, e3, h⟩ := bd_e h
    refine co_i (W0 := [(a_t, .inr (10, [.int c_t_thrown, .int c_t_pieces, .ref a_t_place, .ref a_t_half, .ref a_t_power, .ref a_t_glass, .int c_t_thing, .int c_t_screen, .int c_t_tall, .int c_t_refused, .double c_t_height, .double c_t_slope, .int c_t_cut, .long c_t_sum])), (a_t_place, .inl (cI, 8, .inl c_t_place)), (a_t_power, .inl (cI, 8, .inl c_t_power)), (a_t_glass, .inl (cI, 8, .inl c_t_glass))]) (wr := []) (W1 := [(a_t, .inr (10, [.int c_t_thrown, .int c_t_pieces, .ref a_t_place, .ref a_t_half, .ref a_t_power, .ref a_t_glass, .int c_t_thing, .int c_t_screen, .int c_t_tall, .int c_t_refused, .double c_t_height, .double c_t_slope, .int c_t_cut, .long c_t_sum])), (a_t_place, .inl (cI, 8, .inl c_t_place)), (a_t_power, .inl (cI, 8, .inl c_t_power)), (a_t_glass, .inl (cI, 8, .inl c_t_glass))]) (ws2 := [(a_t, .inr (10, [.int c_t_thrown, .int c_t_pieces, .ref a_t_place, .ref a_t_half, .ref a_t_power, .ref a_t_glass, .int c_t_thing, .int c_t_screen, .int c_t_tall, .int c_t_refused, .double c_t_height, .double c_t_slope, .int c_t_cut, .long c_t_sum])), (a_t_place, .inl (cI, 8, .inl c_t_place)), (a_t_power, .inl (cI, 8, .inl c_t_power)), (a_t_glass, .inl (cI, 8, .inl c_t_glass))]) (va_runV (C := RX8) (As := [.int p1]) (rest := []) ⟨hx, hb, hml, hown, hts⟩ (m_X8_hasImage l D cI cD cB a_t a_t_place a_t_half a_t_power a_t_glass p1 c_t_thrown c_t_pieces c_t_thing c_t_screen c_t_tall c_t_refused c_t_height c_t_slope c_t_cut c_t_sum c_t_place c_t_power c_t_glass o2 e3 _) (cwV 1 hts gX8_imageNow_X8_hasImage rfl rfl rfl (by decide +kernel) ⟨Nat.le_of_ble_eq_true rfl, Nat.le_of_ble_eq_true rfl⟩) (my_preV (q := (RX8, TX8, 14)) (ci := 10) (q0 := 0) [0, 1, 2, 3] hP hK hNM hZ hD hS hA rfl rfl rfl rfl) rfl rfl hl.1 rfl (lv_room (Nat.le_of_ble_eq_true rfl)) dX8_imageNow_37 ⟨Nat.zero_le _, Nat.zero_le _⟩) hP hD hS hA [0, 1, 2, 3] [] [0, 1, 2, 3] rfl rfl rfl rfl rfl (by decide) (fun H locs hP hD hS => ?_)
    refine lv_if_ne (tgt := 45) hx hb dX8_imageNow_40 (by decide) (fun q4 => ?_) (fun q4 => ?_)
    · replace h := ifn h q4
      refine lv_aload_n hx hb dX8_imageNow_45 rfl (lv_at hl 0 rfl) ?_
      refine lv_iload_n hx hb dX8_imageNow_46 rfl (lv_at hl 1 rfl) ?_
      obtain ⟨o5, e6, h⟩ := bd_e h
      refine co_d (W0 := [(a_t, .inr (10, [.int c_t_thrown, .int c_t_pieces, .ref a_t_place, .ref a_t_half, .ref a_t_power, .ref a_t_glass, .int c_t_thing, .int c_t_screen, .int c_t_tall, .int c_t_refused, .double c_t_height, .double c_t_slope, .int c_t_cut, .long c_t_sum])), (a_t_place, .inl (cI, 8, .inl c_t_place)), (a_t_power, .inl (cI, 8, .inl c_t_power)), (a_t_glass, .inl (cI, 8, .inl c_t_glass))]) (wr := []) (W1 := [(a_t, .inr (10, [.int c_t_thrown, .int c_t_pieces, .ref a_t_place, .ref a_t_half, .ref a_t_power, .ref a_t_glass, .int c_t_thing, .int c_t_screen, .int c_t_tall, .int c_t_refused, .double c_t_height, .double c_t_slope, .int c_t_cut, .long c_t_sum])), (a_t_place, .inl (cI, 8, .inl c_t_place)), (a_t_power, .inl (cI, 8, .inl c_t_power)), (a_t_glass, .inl (cI, 8, .inl c_t_glass))]) (ws2 := [(a_t, .inr (10, [.int c_t_thrown, .int c_t_pieces, .ref a_t_place, .ref a_t_half, .ref a_t_power, .ref a_t_glass, .int c_t_thing, .int c_t_screen, .int c_t_tall, .int c_t_refused, .double c_t_height, .double c_t_slope, .int c_t_cut, .long c_t_sum])), (a_t_place, .inl (cI, 8, .inl c_t_place)), (a_t_power, .inl (cI, 8, .inl c_t_power)), (a_t_glass, .inl (cI, 8, .inl c_t_glass))]) (va_runV (C := RX8) (As := [.int p1]) (rest := []) ⟨hx, hb, hml, hown, hts⟩ (m_X8_back l D cI cD cB a_t a_t_place a_t_half a_t_power a_t_glass p1 c_t_thrown c_t_pieces c_t_thing c_t_screen c_t_tall c_t_refused c_t_height c_t_slope c_t_cut c_t_sum c_t_place c_t_power c_t_glass o5 e6 _) (cwV 1 hts gX8_imageNow_X8_back rfl rfl rfl (by decide +kernel) ⟨Nat.le_of_ble_eq_true rfl, Nat.le_of_ble_eq_true rfl⟩) (my_preV (q := (RX8, TX8, 14)) (ci := 10) (q0 := 0) [0, 1, 2, 3] hP hK hNM hZ hD hS hA rfl rfl rfl rfl) rfl rfl hl.1 rfl (lv_room (Nat.le_of_ble_eq_true rfl)) dX8_imageNow_47 ⟨Nat.zero_le _, Nat.zero_le _⟩) hP hD hS hA [0, 1, 2, 3] [] [0, 1, 2, 3] rfl rfl rfl rfl rfl (by decide) (fun H locs hP hD hS => ?_)
      refine lv_dstore_n (lv' := [(3, .double o5), (0, .ref a_t), (1, .int p1), (2, .int p2)]) hx hb dX8_imageNow_50 rfl hl (by decide) rfl (fun ls hl => ?_)
      refine lv_iload_n hx hb dX8_imageNow_51 rfl (lv_at hl 3 rfl) ?_
      refine lv_if_ne (tgt := 57) hx hb dX8_imageNow_52 (by decide) (fun q7 => ?_) (fun q7 => ?_)
      · replace h := ifn h q7
        refine lv_iload_n hx hb dX8_imageNow_57 rfl (lv_at hl 3 rfl) ?_
        refine lv_iconst (v := (1 : Int32)) hx hb dX8_imageNow_58 (by decide) ?_
        refine lv_icmp_ne (tgt := 64) hx hb dX8_imageNow_59 (by decide) (fun q8 => ?_) (fun q8 => ?_)
        · replace h := ifn h q8
          refine lv_iload_n hx hb dX8_imageNow_64 rfl (lv_at hl 3 rfl) ?_
          refine lv_iconst (v := (3 : Int32)) hx hb dX8_imageNow_65 (by decide) ?_
          refine lv_icmp_ne (tgt := 81) hx hb dX8_imageNow_66 (by decide) (fun q9 => ?_) (fun q9 => ?_)
          · replace h := ifn h q9
            refine lv_aload_n hx hb dX8_imageNow_81 rfl (lv_at hl 1 rfl) ?_
            refine lv_iload_n hx hb dX8_imageNow_82 rfl (lv_at hl 2 rfl) ?_
            refine lv_iconst (v := (0 : Int32)) hx hb dX8_imageNow_83 (by decide) ?_
            obtain ⟨o10, e11, h⟩ := bd_e h
            refine co_d (W0 := [(a_t, .inr (10, [.int c_t_thrown, .int c_t_pieces, .ref a_t_place, .ref a_t_half, .ref a_t_power, .ref a_t_glass, .int c_t_thing, .int c_t_screen, .int c_t_tall, .int c_t_refused, .double c_t_height, .double c_t_slope, .int c_t_cut, .long c_t_sum])), (a_t_place, .inl (cI, 8, .inl c_t_place)), (a_t_power, .inl (cI, 8, .inl c_t_power)), (a_t_glass, .inl (cI, 8, .inl c_t_glass))]) (wr := []) (W1 := [(a_t, .inr (10, [.int c_t_thrown, .int c_t_pieces, .ref a_t_place, .ref a_t_half, .ref a_t_power, .ref a_t_glass, .int c_t_thing, .int c_t_screen, .int c_t_tall, .int c_t_refused, .double c_t_height, .double c_t_slope, .int c_t_cut, .long c_t_sum])), (a_t_place, .inl (cI, 8, .inl c_t_place)), (a_t_power, .inl (cI, 8, .inl c_t_power)), (a_t_glass, .inl (cI, 8, .inl c_t_glass))]) (ws2 := [(a_t, .inr (10, [.int c_t_thrown, .int c_t_pieces, .ref a_t_place, .ref a_t_half, .ref a_t_power, .ref a_t_glass, .int c_t_thing, .int c_t_screen, .int c_t_tall, .int c_t_refused, .double c_t_height, .double c_t_slope, .int c_t_cut, .long c_t_sum])), (a_t_place, .inl (cI, 8, .inl c_t_place)), (a_t_power, .inl (cI, 8, .inl c_t_power)), (a_t_glass, .inl (cI, 8, .inl c_t_glass))]) (va_runV (C := RX8) (As := [.int p1, .int (0 : Int32)]) (rest := []) ⟨hx, hb, hml, hown, hts⟩ (m_X8_tableNow l D cI cD cB a_t a_t_place a_t_half a_t_power a_t_glass p1 (0 : Int32) c_t_thrown c_t_pieces c_t_thing c_t_screen c_t_tall c_t_refused c_t_height c_t_slope c_t_cut c_t_sum c_t_place c_t_power c_t_glass o10 e11 _) (cwV 2 hts gX8_imageNow_X8_tableNow rfl rfl rfl (by decide +kernel) ⟨Nat.le_of_ble_eq_true rfl, Nat.le_of_ble_eq_true rfl⟩) (my_preV (q := (RX8, TX8, 14)) (ci := 10) (q0 := 0) [0, 1, 2, 3] hP hK hNM hZ hD hS hA rfl rfl rfl rfl) rfl rfl hl.1 rfl (lv_room (Nat.le_of_ble_eq_true rfl)) dX8_imageNow_84 ⟨Nat.zero_le _, Nat.zero_le _⟩) hP hD hS hA [0, 1, 2, 3] [] [0, 1, 2, 3] rfl rfl rfl rfl rfl (by decide) (fun H locs hP hD hS => ?_)
            refine lv_aload_n hx hb dX8_imageNow_87 rfl (lv_at hl 1 rfl) ?_
            refine lv_iload_n hx hb dX8_imageNow_88 rfl (lv_at hl 2 rfl) ?_
            refine lv_iconst (v := (2 : Int32)) hx hb dX8_imageNow_89 (by decide) ?_
            obtain ⟨o12, e13, h⟩ := bd_e h
            refine co_d (W0 := [(a_t, .inr (10, [.int c_t_thrown, .int c_t_pieces, .ref a_t_place, .ref a_t_half, .ref a_t_power, .ref a_t_glass, .int c_t_thing, .int c_t_screen, .int c_t_tall, .int c_t_refused, .double c_t_height, .double c_t_slope, .int c_t_cut, .long c_t_sum])), (a_t_place, .inl (cI, 8, .inl c_t_place)), (a_t_power, .inl (cI, 8, .inl c_t_power)), (a_t_glass, .inl (cI, 8, .inl c_t_glass))]) (wr := []) (W1 := [(a_t, .inr (10, [.int c_t_thrown, .int c_t_pieces, .ref a_t_place, .ref a_t_half, .ref a_t_power, .ref a_t_glass, .int c_t_thing, .int c_t_screen, .int c_t_tall, .int c_t_refused, .double c_t_height, .double c_t_slope, .int c_t_cut, .long c_t_sum])), (a_t_place, .inl (cI, 8, .inl c_t_place)), (a_t_power, .inl (cI, 8, .inl c_t_power)), (a_t_glass, .inl (cI, 8, .inl c_t_glass))]) (ws2 := [(a_t, .inr (10, [.int c_t_thrown, .int c_t_pieces, .ref a_t_place, .ref a_t_half, .ref a_t_power, .ref a_t_glass, .int c_t_thing, .int c_t_screen, .int c_t_tall, .int c_t_refused, .double c_t_height, .double c_t_slope, .int c_t_cut, .long c_t_sum])), (a_t_place, .inl (cI, 8, .inl c_t_place)), (a_t_power, .inl (cI, 8, .inl c_t_power)), (a_t_glass, .inl (cI, 8, .inl c_t_glass))]) (va_runV (C := RX8) (As := [.int p1, .int (2 : Int32)]) (rest := [.double o10]) ⟨hx, hb, hml, hown, hts⟩ (m_X8_tableNow l D cI cD cB a_t a_t_place a_t_half a_t_power a_t_glass p1 (2 : Int32) c_t_thrown c_t_pieces c_t_thing c_t_screen c_t_tall c_t_refused c_t_height c_t_slope c_t_cut c_t_sum c_t_place c_t_power c_t_glass o12 e13 _) (cwV 2 hts gX8_imageNow_X8_tableNow rfl rfl rfl (by decide +kernel) ⟨Nat.le_of_ble_eq_true rfl, Nat.le_of_ble_eq_true rfl⟩) (my_preV (q := (RX8, TX8, 14)) (ci := 10) (q0 := 0) [0, 1, 2, 3] hP hK hNM hZ hD hS hA rfl rfl rfl rfl) rfl rfl hl.1 rfl (lv_room (Nat.le_of_ble_eq_true rfl)) dX8_imageNow_90 ⟨Nat.zero_le _, Nat.zero_le _⟩) hP hD hS hA [0, 1, 2, 3] [] [0, 1, 2, 3] rfl rfl rfl rfl rfl (by decide) (fun H locs hP hD hS => ?_)
            refine lv_dload_n hx hb dX8_imageNow_93 rfl (lv_at hl 0 rfl) ?_
            obtain ⟨g14, h⟩ := gd_e h
            refine lv_dmul hx hb dX8_imageNow_94 (n64_n g14) ?_
            obtain ⟨g15, h⟩ := gd_e h
            refine lv_dadd hx hb dX8_imageNow_95 (n64_n g15) ?_
            obtain ⟨o16, e17, h⟩ := bd_e h
            refine co_d (W0 := []) (wr := [(a_t, .inr (10, [.int c_t_thrown, .int c_t_pieces, .ref a_t_place, .ref a_t_half, .ref a_t_power, .ref a_t_glass, .int c_t_thing, .int c_t_screen, .int c_t_tall, .int c_t_refused, .double c_t_height, .double c_t_slope, .int c_t_cut, .long c_t_sum])), (a_t_place, .inl (cI, 8, .inl c_t_place)), (a_t_power, .inl (cI, 8, .inl c_t_power)), (a_t_glass, .inl (cI, 8, .inl c_t_glass))]) (W1 := []) (ws2 := [(a_t, .inr (10, [.int c_t_thrown, .int c_t_pieces, .ref a_t_place, .ref a_t_half, .ref a_t_power, .ref a_t_glass, .int c_t_thing, .int c_t_screen, .int c_t_tall, .int c_t_refused, .double c_t_height, .double c_t_slope, .int c_t_cut, .long c_t_sum])), (a_t_place, .inl (cI, 8, .inl c_t_place)), (a_t_power, .inl (cI, 8, .inl c_t_power)), (a_t_glass, .inl (cI, 8, .inl c_t_glass))]) (va_runS (As := [.double (FP.dadd o10 (FP.dmul o12 o5))]) (rest := []) ⟨hx, hb, hml, hown, hts⟩ (m_X8_plain l D cI cD cB (FP.dadd o10 (FP.dmul o12 o5)) o16 e17 _) (va_cwS 1 hts gX8_imageNow_X8_plain rfl rfl rfl (by decide +kernel) ⟨Nat.le_of_ble_eq_true rfl, Nat.le_of_ble_eq_true rfl⟩) (my_preS [] hP hK hNM hZ hD hS hA rfl rfl) rfl rfl hl.1 rfl (lv_room (Nat.le_of_ble_eq_true rfl)) dX8_imageNow_96 ⟨Nat.zero_le _, Nat.zero_le _⟩) hP hD hS hA [] [0, 1, 2, 3] [0, 1, 2, 3] rfl rfl rfl rfl rfl (by decide) (fun H locs hP hD hS => ?_)
            rw [← some_e h] at hfin
            exact hfin 99 _ _ _ dX8_imageNow_99 hP hD hS
          · replace h := ifp h q9
            refine lv_dload_n hx hb dX8_imageNow_69 rfl (lv_at hl 0 rfl) ?_
            refine lv_dconst0 hx hb dX8_imageNow_70 ?_
            refine lv_dcmp hx hb dX8_imageNow_71 ?_
            refine lv_if_le (tgt := 79) hx hb dX8_imageNow_72 (by decide) (fun q18 => ?_) (fun q18 => ?_)
            · replace h := ifp h q18
              refine lv_dconst0 hx hb dX8_imageNow_79 ?_
              rw [← some_e h] at hfin
              exact hfin 80 _ _ _ dX8_imageNow_80 hP hD hS
            · replace h := ifn h q18
              refine lv_dconst1 hx hb dX8_imageNow_75 ?_
              refine lv_goto (tgt := 80) hx hb dX8_imageNow_76 (by decide) ?_
              rw [← some_e h] at hfin
              exact hfin 80 _ _ _ dX8_imageNow_80 hP hD hS
        · replace h := ifp h q8
          refine lv_dload_n hx hb dX8_imageNow_62 rfl (lv_at hl 0 rfl) ?_
          rw [← some_e h] at hfin
          exact hfin 63 _ _ _ dX8_imageNow_63 hP hD hS
      · replace h := ifp h q7
        refine lv_dconst1 hx hb dX8_imageNow_55 ?_
        rw [← some_e h] at hfin
        exact hfin 56 _ _ _ dX8_imageNow_56 hP hD hS
    · replace h := ifp h q4
      refine lv_dconst0 hx hb dX8_imageNow_43 ?_
      rw [← some_e h] at hfin
      exact hfin 44 _ _ _ dX8_imageNow_44 hP hD hS
  · replace h := ifp h q1
    refine lv_aload_n hx hb dX8_imageNow_5 rfl (lv_at hl 0 rfl) ?_
    refine lv_iload_n hx hb dX8_imageNow_6 rfl (lv_at hl 1 rfl) ?_
    refine lv_iconst (v := (2 : Int32)) hx hb dX8_imageNow_7 (by decide) ?_
    obtain ⟨o19, e20, h⟩ := bd_e h
    refine co_d (W0 := [(a_t, .inr (10, [.int c_t_thrown, .int c_t_pieces, .ref a_t_place, .ref a_t_half, .ref a_t_power, .ref a_t_glass, .int c_t_thing, .int c_t_screen, .int c_t_tall, .int c_t_refused, .double c_t_height, .double c_t_slope, .int c_t_cut, .long c_t_sum])), (a_t_place, .inl (cI, 8, .inl c_t_place)), (a_t_power, .inl (cI, 8, .inl c_t_power)), (a_t_glass, .inl (cI, 8, .inl c_t_glass))]) (wr := []) (W1 := [(a_t, .inr (10, [.int c_t_thrown, .int c_t_pieces, .ref a_t_place, .ref a_t_half, .ref a_t_power, .ref a_t_glass, .int c_t_thing, .int c_t_screen, .int c_t_tall, .int c_t_refused, .double c_t_height, .double c_t_slope, .int c_t_cut, .long c_t_sum])), (a_t_place, .inl (cI, 8, .inl c_t_place)), (a_t_power, .inl (cI, 8, .inl c_t_power)), (a_t_glass, .inl (cI, 8, .inl c_t_glass))]) (ws2 := [(a_t, .inr (10, [.int c_t_thrown, .int c_t_pieces, .ref a_t_place, .ref a_t_half, .ref a_t_power, .ref a_t_glass, .int c_t_thing, .int c_t_screen, .int c_t_tall, .int c_t_refused, .double c_t_height, .double c_t_slope, .int c_t_cut, .long c_t_sum])), (a_t_place, .inl (cI, 8, .inl c_t_place)), (a_t_power, .inl (cI, 8, .inl c_t_power)), (a_t_glass, .inl (cI, 8, .inl c_t_glass))]) (va_runV (C := RX8) (As := [.int p1, .int (2 : Int32)]) (rest := []) ⟨hx, hb, hml, hown, hts⟩ (m_X8_tableNow l D cI cD cB a_t a_t_place a_t_half a_t_power a_t_glass p1 (2 : Int32) c_t_thrown c_t_pieces c_t_thing c_t_screen c_t_tall c_t_refused c_t_height c_t_slope c_t_cut c_t_sum c_t_place c_t_power c_t_glass o19 e20 _) (cwV 2 hts gX8_imageNow_X8_tableNow rfl rfl rfl (by decide +kernel) ⟨Nat.le_of_ble_eq_true rfl, Nat.le_of_ble_eq_true rfl⟩) (my_preV (q := (RX8, TX8, 14)) (ci := 10) (q0 := 0) [0, 1, 2, 3] hP hK hNM hZ hD hS hA rfl rfl rfl rfl) rfl rfl hl.1 rfl (lv_room (Nat.le_of_ble_eq_true rfl)) dX8_imageNow_8 ⟨Nat.zero_le _, Nat.zero_le _⟩) hP hD hS hA [0, 1, 2, 3] [] [0, 1, 2, 3] rfl rfl rfl rfl rfl (by decide) (fun H locs hP hD hS => ?_)
    refine lv_dstore_n (lv' := [(3, .double o19), (0, .ref a_t), (1, .int p1), (2, .int p2)]) hx hb dX8_imageNow_11 rfl hl (by decide) rfl (fun ls hl => ?_)
    refine lv_dload_n hx hb dX8_imageNow_12 rfl (lv_at hl 0 rfl) ?_
    obtain ⟨g25, h⟩ := gd_e h
    refine my_abs hx hb (hml.trans hl.1.symm) hown (hts _ mml_X8_imageNow_79) (hts _ mms_X8_imageNow_79) (hts _ mmi_X8_imageNow_79) (hts _ mmc_X8_imageNow_79) (Nat.le_of_ble_eq_true rfl) (Nat.le_of_ble_eq_true rfl) (Nat.zero_le _) (Nat.zero_le _) g25 dX8_imageNow_13 ?_
    refine lv_ldc2d hx hb hown (hts _ mk_X8_imageNow_115) dX8_imageNow_16 ?_
    refine lv_dcmp hx hb dX8_imageNow_19 ?_
    refine lv_if_lt (tgt := 33) hx hb dX8_imageNow_20 (by decide) (fun q21 => ?_) (fun q21 => ?_)
    · replace h := ifp h q21
      refine lv_dconst0 hx hb dX8_imageNow_33 ?_
      rw [← some_e h] at hfin
      exact hfin 34 _ _ _ dX8_imageNow_34 hP hD hS
    · replace h := ifn h q21
      refine lv_dconst1 hx hb dX8_imageNow_23 ?_
      refine lv_dload_n hx hb dX8_imageNow_24 rfl (lv_at hl 0 rfl) ?_
      obtain ⟨g22, h⟩ := gd_e h
      refine lv_ddiv hx hb dX8_imageNow_25 (n64_n g22) ?_
      refine lv_dneg hx hb dX8_imageNow_26 ?_
      obtain ⟨o23, e24, h⟩ := bd_e h
      refine co_d (W0 := []) (wr := [(a_t, .inr (10, [.int c_t_thrown, .int c_t_pieces, .ref a_t_place, .ref a_t_half, .ref a_t_power, .ref a_t_glass, .int c_t_thing, .int c_t_screen, .int c_t_tall, .int c_t_refused, .double c_t_height, .double c_t_slope, .int c_t_cut, .long c_t_sum])), (a_t_place, .inl (cI, 8, .inl c_t_place)), (a_t_power, .inl (cI, 8, .inl c_t_power)), (a_t_glass, .inl (cI, 8, .inl c_t_glass))]) (W1 := []) (ws2 := [(a_t, .inr (10, [.int c_t_thrown, .int c_t_pieces, .ref a_t_place, .ref a_t_half, .ref a_t_power, .ref a_t_glass, .int c_t_thing, .int c_t_screen, .int c_t_tall, .int c_t_refused, .double c_t_height, .double c_t_slope, .int c_t_cut, .long c_t_sum])), (a_t_place, .inl (cI, 8, .inl c_t_place)), (a_t_power, .inl (cI, 8, .inl c_t_power)), (a_t_glass, .inl (cI, 8, .inl c_t_glass))]) (va_runS (As := [.double (FP.dneg (FP.ddiv FP.dconst1 o19))]) (rest := []) ⟨hx, hb, hml, hown, hts⟩ (m_X8_plain l D cI cD cB (FP.dneg (FP.ddiv FP.dconst1 o19)) o23 e24 _) (va_cwS 1 hts gX8_imageNow_X8_plain rfl rfl rfl (by decide +kernel) ⟨Nat.le_of_ble_eq_true rfl, Nat.le_of_ble_eq_true rfl⟩) (my_preS [] hP hK hNM hZ hD hS hA rfl rfl) rfl rfl hl.1 rfl (lv_room (Nat.le_of_ble_eq_true rfl)) dX8_imageNow_27 ⟨Nat.zero_le _, Nat.zero_le _⟩) hP hD hS hA [] [0, 1, 2, 3] [0, 1, 2, 3] rfl rfl rfl rfl rfl (by decide) (fun H locs hP hD hS => ?_)
      refine lv_goto (tgt := 34) hx hb dX8_imageNow_30 (by decide) ?_
      rw [← some_e h] at hfin
      exact hfin 34 _ _ _ dX8_imageNow_34 hP hD hS
theorem mc_X8_orderOf_X8 : ∀ w ∈ wsX80, w ∈ wsX8_orderOf := by decide +kernel
theorem mf_X8_orderOf_60 : Cond.fieldLink RX8 60 "LensbenchModel" "thing" "I" ∈ wsX8_orderOf := by decide +kernel
theorem mf_X8_orderOf_9 : Cond.fieldLink RX8 9 "LensbenchModel" "place" "[I" ∈ wsX8_orderOf := by decide +kernel
abbrev rm_X8_orderOf : Room := { frames := 1, cells := 0, slots := 0, locals := 23 }
set_option maxHeartbeats 4000000 in
set_option maxRecDepth 100000 in
theorem m_X8_orderOf (l : Launch) (D : va_G) (cI cD cB : ClassId) (a_t : Nat) (a_t_place : Nat) (a_t_half : Nat) (a_t_power : Nat) (a_t_glass : Nat) (p1 : Int32) (c_t_thrown : Int32) (c_t_pieces : Int32) (c_t_thing : Int32) (c_t_screen : Int32) (c_t_tall : Int32) (c_t_refused : Int32) (c_t_height : UInt64) (c_t_slope : UInt64) (c_t_cut : Int32) (c_t_sum : Int64) (c_t_place : Nat → Int32) (R : Int32) (h : f_X8_orderOf p1 c_t_pieces c_t_thing c_t_screen c_t_place = some R) : Ci l yX8_orderOf wsX8_orderOf rm_X8_orderOf D (TT cI cD cB) [.ref a_t, .int p1] [(a_t, .inr (10, [.int c_t_thrown, .int c_t_pieces, .ref a_t_place, .ref a_t_half, .ref a_t_power, .ref a_t_glass, .int c_t_thing, .int c_t_screen, .int c_t_tall, .int c_t_refused, .double c_t_height, .double c_t_slope, .int c_t_cut, .long c_t_sum])), (a_t_place, .inl (cI, 8, .inl c_t_place))] [(a_t, .inr (10, [.int c_t_thrown, .int c_t_pieces, .ref a_t_place, .ref a_t_half, .ref a_t_power, .ref a_t_glass, .int c_t_thing, .int c_t_screen, .int c_t_tall, .int c_t_refused, .double c_t_height, .double c_t_slope, .int c_t_cut, .long c_t_sum])), (a_t_place, .inl (cI, 8, .inl c_t_place))] R 0 0 := by
  unfold f_X8_orderOf at h
  refine st_i (cc := cX8_orderOf) (maxL := 4) (by decide) rfl (Nat.le_of_ble_eq_true rfl) (fun p e s m av below meth c A Q ls hx hb hml hts hown hA hK hNM hZ hP hD hS hl hfin => ?_)
  have hown : s.vm.findClass RX8 = some m.cls := hown
  have hl : lv_has ls 4 [(0, .ref a_t), (1, .int p1)] := hl
  refine lv_iconst (v := (0 : Int32)) hx hb dX8_orderOf_0 (by decide) ?_
  refine lv_istore_n (lv' := [(2, .int (0 : Int32)), (0, .ref a_t), (1, .int p1)]) hx hb dX8_orderOf_1 rfl hl (by decide) rfl (fun ls hl => ?_)
  refine lv_aload_n hx hb dX8_orderOf_2 rfl (lv_at hl 1 rfl) ?_
  refine lv_aload_n hx hb dX8_orderOf_3 rfl (lv_at hl 1 rfl) ?_
  refine va_get (D := D) (ci := 10) (v := .int c_t_thing) (C := RX8) (T := TX8) (N := 14) hx hb hts mc_X8_orderOf_X8 hown hK hP 0 rfl rfl 6 (by decide) (hts _ mf_X8_orderOf_60) (fun _ h9 => h9) rfl dX8_orderOf_4 ?_
  obtain ⟨o1, e2, h⟩ := bd_e h
  refine co_i (W0 := [(a_t, .inr (10, [.int c_t_thrown, .int c_t_pieces, .ref a_t_place, .ref a_t_half, .ref a_t_power, .ref a_t_glass, .int c_t_thing, .int c_t_screen, .int c_t_tall, .int c_t_refused, .double c_t_height, .double c_t_slope, .int c_t_cut, .long c_t_sum])), (a_t_place, .inl (cI, 8, .inl c_t_place))]) (wr := []) (W1 := [(a_t, .inr (10, [.int c_t_thrown, .int c_t_pieces, .ref a_t_place, .ref a_t_half, .ref a_t_power, .ref a_t_glass, .int c_t_thing, .int c_t_screen, .int c_t_tall, .int c_t_refused, .double c_t_height, .double c_t_slope, .int c_t_cut, .long c_t_sum])), (a_t_place, .inl (cI, 8, .inl c_t_place))]) (ws2 := [(a_t, .inr (10, [.int c_t_thrown, .int c_t_pieces, .ref a_t_place, .ref a_t_half, .ref a_t_power, .ref a_t_glass, .int c_t_thing, .int c_t_screen, .int c_t_tall, .int c_t_refused, .double c_t_height, .double c_t_slope, .int c_t_cut, .long c_t_sum])), (a_t_place, .inl (cI, 8, .inl c_t_place))]) (va_runV (C := RX8) (As := [.int c_t_thing]) (rest := []) ⟨hx, hb, hml, hown, hts⟩ (m_X8_next l D cI cD cB a_t a_t_place a_t_half a_t_power a_t_glass c_t_thing c_t_thrown c_t_pieces c_t_thing c_t_screen c_t_tall c_t_refused c_t_height c_t_slope c_t_cut c_t_sum c_t_place o1 e2 _) (cwV 1 hts gX8_orderOf_X8_next rfl rfl rfl (by decide +kernel) ⟨Nat.le_of_ble_eq_true rfl, Nat.le_of_ble_eq_true rfl⟩) (my_preV (q := (RX8, TX8, 14)) (ci := 10) (q0 := 0) [0, 1] hP hK hNM hZ hD hS hA rfl rfl rfl rfl) rfl rfl hl.1 rfl (lv_room (Nat.le_of_ble_eq_true rfl)) dX8_orderOf_7 ⟨Nat.zero_le _, Nat.zero_le _⟩) hP hD hS hA [0, 1] [] [0, 1] rfl rfl rfl rfl rfl (by decide) (fun H locs hP hD hS => ?_)
  refine lv_istore_n (lv' := [(3, .int o1), (2, .int (0 : Int32)), (0, .ref a_t), (1, .int p1)]) hx hb dX8_orderOf_10 rfl hl (by decide) rfl (fun ls hl => ?_)
  have LOOP1 : ∀ (n1 : Nat) (s1 : Int32 × Int32) (H : Heap) (locs : List Loc) (ls : Array Slot), va_P D vwCl [(a_t, .inr (10, [.int c_t_thrown, .int c_t_pieces, .ref a_t_place, .ref a_t_half, .ref a_t_power, .ref a_t_glass, .int c_t_thing, .int c_t_screen, .int c_t_tall, .int c_t_refused, .double c_t_height, .double c_t_slope, .int c_t_cut, .long c_t_sum])), (a_t_place, .inl (cI, 8, .inl c_t_place))] H → va_D A [(a_t, .inr (10, [.int c_t_thrown, .int c_t_pieces, .ref a_t_place, .ref a_t_half, .ref a_t_power, .ref a_t_glass, .int c_t_thing, .int c_t_screen, .int c_t_tall, .int c_t_refused, .double c_t_height, .double c_t_slope, .int c_t_cut, .long c_t_sum])), (a_t_place, .inl (cI, 8, .inl c_t_place))] → va_S A s.heap H locs → lv_has ls 4 [(3, .int s1.1), (2, .int s1.2), (0, .ref a_t), (1, .int p1)] → lp (f_X8_orderOf_b1 p1 c_t_pieces c_t_screen c_t_place) n1 s1 = some R → W p l e rm_X8_orderOf s m av below meth c H locs 0 0 Q (F0 m 11 ls []) := by
    intro n1
    induction n1 with
    | zero => intro s1 H locs ls hP hD hS hl h; exact lp_0 h
    | succ n1 ih1 =>
      intro s1 H locs ls hP hD hS hl h
      replace h := lp_s h
      unfold f_X8_orderOf_b1 at h
      refine lv_iload_n hx hb dX8_orderOf_11 rfl (lv_at hl 0 rfl) ?_
      refine lv_iconst (v := (-1 : Int32)) hx hb dX8_orderOf_12 (by decide) ?_
      refine lv_icmp_eq (tgt := 40) hx hb dX8_orderOf_13 (by decide) (fun q3 => ?_) (fun q3 => ?_)
      · replace h := ifp h q3
        refine lv_iconst (v := (-1 : Int32)) hx hb dX8_orderOf_40 (by decide) ?_
        rw [← some_e h] at hfin
        exact hfin 41 _ _ _ dX8_orderOf_41 rfl hP hD hS
      · replace h := ifn h q3
        refine lv_iload_n hx hb dX8_orderOf_16 rfl (lv_at hl 0 rfl) ?_
        refine lv_iload_n hx hb dX8_orderOf_17 rfl (lv_at hl 3 rfl) ?_
        refine lv_icmp_ne (tgt := 23) hx hb dX8_orderOf_18 (by decide) (fun q4 => ?_) (fun q4 => ?_)
        · replace h := ifn h q4
          refine lv_iinc (v := (s1.2 + (1 : Int32))) (lv' := [(2, .int (s1.2 + (1 : Int32))), (3, .int s1.1), (0, .ref a_t), (1, .int p1)]) hx hb dX8_orderOf_23 hl (k := 1) rfl rfl (by decide) rfl (fun ls hl => ?_)
          refine lv_aload_n hx hb dX8_orderOf_26 rfl (lv_at hl 2 rfl) ?_
          refine lv_aload_n hx hb dX8_orderOf_27 rfl (lv_at hl 2 rfl) ?_
          refine va_get (D := D) (ci := 10) (v := .ref a_t_place) (C := RX8) (T := TX8) (N := 14) hx hb hts mc_X8_orderOf_X8 hown hK hP 0 rfl rfl 2 (by decide) (hts _ mf_X8_orderOf_9) (fun _ h9 => h9) rfl dX8_orderOf_28 ?_
          refine lv_iload_n hx hb dX8_orderOf_31 rfl (lv_at hl 1 rfl) ?_
          obtain ⟨g5, h⟩ := gd_e h
          refine va_iald hx hb hK hP 1 0 rfl rfl (vin_in g5) dX8_orderOf_32 ?_
          obtain ⟨o6, e7, h⟩ := bd_e h
          refine co_i (W0 := [(a_t, .inr (10, [.int c_t_thrown, .int c_t_pieces, .ref a_t_place, .ref a_t_half, .ref a_t_power, .ref a_t_glass, .int c_t_thing, .int c_t_screen, .int c_t_tall, .int c_t_refused, .double c_t_height, .double c_t_slope, .int c_t_cut, .long c_t_sum])), (a_t_place, .inl (cI, 8, .inl c_t_place))]) (wr := []) (W1 := [(a_t, .inr (10, [.int c_t_thrown, .int c_t_pieces, .ref a_t_place, .ref a_t_half, .ref a_t_power, .ref a_t_glass, .int c_t_thing, .int c_t_screen, .int c_t_tall, .int c_t_refused, .double c_t_height, .double c_t_slope, .int c_t_cut, .long c_t_sum])), (a_t_place, .inl (cI, 8, .inl c_t_place))]) (ws2 := [(a_t, .inr (10, [.int c_t_thrown, .int c_t_pieces, .ref a_t_place, .ref a_t_half, .ref a_t_power, .ref a_t_glass, .int c_t_thing, .int c_t_screen, .int c_t_tall, .int c_t_refused, .double c_t_height, .double c_t_slope, .int c_t_cut, .long c_t_sum])), (a_t_place, .inl (cI, 8, .inl c_t_place))]) (va_runV (C := RX8) (As := [.int (c_t_place (s1.1).toNatClampNeg)]) (rest := []) ⟨hx, hb, hml, hown, hts⟩ (m_X8_next l D cI cD cB a_t a_t_place a_t_half a_t_power a_t_glass (c_t_place (s1.1).toNatClampNeg) c_t_thrown c_t_pieces c_t_thing c_t_screen c_t_tall c_t_refused c_t_height c_t_slope c_t_cut c_t_sum c_t_place o6 e7 _) (cwV 1 hts gX8_orderOf_X8_next rfl rfl rfl (by decide +kernel) ⟨Nat.le_of_ble_eq_true rfl, Nat.le_of_ble_eq_true rfl⟩) (my_preV (q := (RX8, TX8, 14)) (ci := 10) (q0 := 0) [0, 1] hP hK hNM hZ hD hS hA rfl rfl rfl rfl) rfl rfl hl.1 rfl (lv_room (Nat.le_of_ble_eq_true rfl)) dX8_orderOf_33 ⟨Nat.zero_le _, Nat.zero_le _⟩) hP hD hS hA [0, 1] [] [0, 1] rfl rfl rfl rfl rfl (by decide) (fun H locs hP hD hS => ?_)
          refine lv_istore_n (lv' := [(3, .int o6), (2, .int (s1.2 + (1 : Int32))), (0, .ref a_t), (1, .int p1)]) hx hb dX8_orderOf_36 rfl hl (by decide) rfl (fun ls hl => ?_)
          refine lv_goto (tgt := 11) hx hb dX8_orderOf_37 (by decide) ?_
          exact ih1 (o6, (s1.2 + (1 : Int32))) _ _ _ hP hD hS (lv_sub hl [0, 1, 2, 3] rfl) h
        · replace h := ifp h q4
          refine lv_iload_n hx hb dX8_orderOf_21 rfl (lv_at hl 1 rfl) ?_
          rw [← some_e h] at hfin
          exact hfin 22 _ _ _ dX8_orderOf_22 rfl hP hD hS
  exact LOOP1 1000 (o1, (0 : Int32)) _ _ _ hP hD hS hl h
theorem mc_X8_throughNow_X8 : ∀ w ∈ wsX80, w ∈ wsX8_throughNow := by decide +kernel
theorem mf_X8_throughNow_26 : Cond.fieldLink RX8 26 "LensbenchModel" "tall" "I" ∈ wsX8_throughNow := by decide +kernel
theorem mf_X8_throughNow_73 : Cond.fieldLink RX8 73 "LensbenchModel" "cut" "I" ∈ wsX8_throughNow := by decide +kernel
theorem mf_X8_throughNow_9 : Cond.fieldLink RX8 9 "LensbenchModel" "place" "[I" ∈ wsX8_throughNow := by decide +kernel
theorem mk_X8_throughNow_89 : Cond.constantDouble RX8 89 (4616189618054758400) ∈ wsX8_throughNow := by decide +kernel
theorem mk_X8_throughNow_91 : Cond.constantDouble RX8 91 (4632233691727265792) ∈ wsX8_throughNow := by decide +kernel
abbrev rm_X8_throughNow : Room := { frames := 2, cells := 0, slots := 0, locals := 55 }
set_option maxHeartbeats 4000000 in
set_option maxRecDepth 100000 in
theorem m_X8_throughNow (l : Launch) (D : va_G) (cI cD cB : ClassId) (a_t : Nat) (a_t_place : Nat) (a_t_half : Nat) (a_t_power : Nat) (a_t_glass : Nat) (p1 : Int32) (c_t_thrown : Int32) (c_t_pieces : Int32) (c_t_thing : Int32) (c_t_screen : Int32) (c_t_tall : Int32) (c_t_refused : Int32) (c_t_height : UInt64) (c_t_slope : UInt64) (c_t_cut : Int32) (c_t_sum : Int64) (c_t_place : Nat → Int32) (c_t_half : Nat → Int32) (c_t_power : Nat → Int32) (c_t_glass : Nat → Int32) (R : Int32 × UInt64 × UInt64 × Int32) (h : f_X8_throughNow p1 c_t_pieces c_t_thing c_t_screen c_t_tall c_t_height c_t_slope c_t_cut c_t_place c_t_half c_t_power c_t_glass = some R) : Ci l yX8_throughNow wsX8_throughNow rm_X8_throughNow D (TT cI cD cB) [.ref a_t, .int p1] [(a_t, .inr (10, [.int c_t_thrown, .int c_t_pieces, .ref a_t_place, .ref a_t_half, .ref a_t_power, .ref a_t_glass, .int c_t_thing, .int c_t_screen, .int c_t_tall, .int c_t_refused, .double c_t_height, .double c_t_slope, .int c_t_cut, .long c_t_sum])), (a_t_place, .inl (cI, 8, .inl c_t_place)), (a_t_half, .inl (cI, 8, .inl c_t_half)), (a_t_power, .inl (cI, 8, .inl c_t_power)), (a_t_glass, .inl (cI, 8, .inl c_t_glass))] [(a_t, .inr (10, [.int c_t_thrown, .int c_t_pieces, .ref a_t_place, .ref a_t_half, .ref a_t_power, .ref a_t_glass, .int c_t_thing, .int c_t_screen, .int c_t_tall, .int c_t_refused, .double R.2.1, .double R.2.2.1, .int R.2.2.2, .long c_t_sum])), (a_t_place, .inl (cI, 8, .inl c_t_place)), (a_t_half, .inl (cI, 8, .inl c_t_half)), (a_t_power, .inl (cI, 8, .inl c_t_power)), (a_t_glass, .inl (cI, 8, .inl c_t_glass))] R.1 0 0 := by
  unfold f_X8_throughNow at h
  refine st_i (cc := cX8_throughNow) (maxL := 4) (by decide) rfl (Nat.le_of_ble_eq_true rfl) (fun p e s m av below meth c A Q ls hx hb hml hts hown hA hK hNM hZ hP hD hS hl hfin => ?_)
  have hown : s.vm.findClass RX8 = some m.cls := hown
  have hl : lv_has ls 4 [(0, .ref a_t), (1, .int p1)] := hl
  refine lv_aload_n hx hb dX8_throughNow_0 rfl (lv_at hl 0 rfl) ?_
  refine lv_iload_n hx hb dX8_throughNow_1 rfl (lv_at hl 1 rfl) ?_
  obtain ⟨o1, e2, h⟩ := bd_e h
  refine co_i (W0 := [(a_t, .inr (10, [.int c_t_thrown, .int c_t_pieces, .ref a_t_place, .ref a_t_half, .ref a_t_power, .ref a_t_glass, .int c_t_thing, .int c_t_screen, .int c_t_tall, .int c_t_refused, .double c_t_height, .double c_t_slope, .int c_t_cut, .long c_t_sum])), (a_t_place, .inl (cI, 8, .inl c_t_place))]) (wr := [(a_t_half, .inl (cI, 8, .inl c_t_half)), (a_t_power, .inl (cI, 8, .inl c_t_power)), (a_t_glass, .inl (cI, 8, .inl c_t_glass))]) (W1 := [(a_t, .inr (10, [.int c_t_thrown, .int c_t_pieces, .ref a_t_place, .ref a_t_half, .ref a_t_power, .ref a_t_glass, .int c_t_thing, .int c_t_screen, .int c_t_tall, .int c_t_refused, .double c_t_height, .double c_t_slope, .int c_t_cut, .long c_t_sum])), (a_t_place, .inl (cI, 8, .inl c_t_place))]) (ws2 := [(a_t, .inr (10, [.int c_t_thrown, .int c_t_pieces, .ref a_t_place, .ref a_t_half, .ref a_t_power, .ref a_t_glass, .int c_t_thing, .int c_t_screen, .int c_t_tall, .int c_t_refused, .double c_t_height, .double c_t_slope, .int c_t_cut, .long c_t_sum])), (a_t_place, .inl (cI, 8, .inl c_t_place)), (a_t_half, .inl (cI, 8, .inl c_t_half)), (a_t_power, .inl (cI, 8, .inl c_t_power)), (a_t_glass, .inl (cI, 8, .inl c_t_glass))]) (va_runV (C := RX8) (As := [.int p1]) (rest := []) ⟨hx, hb, hml, hown, hts⟩ (m_X8_orderOf l D cI cD cB a_t a_t_place a_t_half a_t_power a_t_glass p1 c_t_thrown c_t_pieces c_t_thing c_t_screen c_t_tall c_t_refused c_t_height c_t_slope c_t_cut c_t_sum c_t_place o1 e2 _) (cwV 1 hts gX8_throughNow_X8_orderOf rfl rfl rfl (by decide +kernel) ⟨Nat.le_of_ble_eq_true rfl, Nat.le_of_ble_eq_true rfl⟩) (my_preV (q := (RX8, TX8, 14)) (ci := 10) (q0 := 0) [0, 1] hP hK hNM hZ hD hS hA rfl rfl rfl rfl) rfl rfl hl.1 rfl (lv_room (Nat.le_of_ble_eq_true rfl)) dX8_throughNow_2 ⟨Nat.zero_le _, Nat.zero_le _⟩) hP hD hS hA [0, 1] [2, 3, 4] [3, 4, 0, 1, 2] rfl rfl rfl rfl rfl (by decide) (fun H locs hP hD hS => ?_)
  refine lv_iconst (v := (-1 : Int32)) hx hb dX8_throughNow_5 (by decide) ?_
  refine lv_icmp_ne (tgt := 11) hx hb dX8_throughNow_6 (by decide) (fun q3 => ?_) (fun q3 => ?_)
  · replace h := ifn h q3
    refine lv_iconst (v := (0 : Int32)) hx hb dX8_throughNow_11 (by decide) ?_
    refine lv_istore_n (lv' := [(2, .int (0 : Int32)), (0, .ref a_t), (1, .int p1)]) hx hb dX8_throughNow_12 rfl hl (by decide) rfl (fun ls hl => ?_)
    refine lv_bipush (v := (-10 : Int32)) hx hb dX8_throughNow_13 (by decide) ?_
    refine lv_istore_n (lv' := [(3, .int (-10 : Int32)), (2, .int (0 : Int32)), (0, .ref a_t), (1, .int p1)]) hx hb dX8_throughNow_15 rfl hl (by decide) rfl (fun ls hl => ?_)
    have LOOP1 : ∀ (n1 : Nat) (s1 : Int32 × Int32 × UInt64 × UInt64 × Int32) (H : Heap) (locs : List Loc) (ls : Array Slot), va_P D vwCl [(a_t, .inr (10, [.int c_t_thrown, .int c_t_pieces, .ref a_t_place, .ref a_t_half, .ref a_t_power, .ref a_t_glass, .int c_t_thing, .int c_t_screen, .int c_t_tall, .int c_t_refused, .double s1.2.2.1, .double s1.2.2.2.1, .int s1.2.2.2.2, .long c_t_sum])), (a_t_place, .inl (cI, 8, .inl c_t_place)), (a_t_half, .inl (cI, 8, .inl c_t_half)), (a_t_power, .inl (cI, 8, .inl c_t_power)), (a_t_glass, .inl (cI, 8, .inl c_t_glass))] H → va_D A [(a_t, .inr (10, [.int c_t_thrown, .int c_t_pieces, .ref a_t_place, .ref a_t_half, .ref a_t_power, .ref a_t_glass, .int c_t_thing, .int c_t_screen, .int c_t_tall, .int c_t_refused, .double s1.2.2.1, .double s1.2.2.2.1, .int s1.2.2.2.2, .long c_t_sum])), (a_t_place, .inl (cI, 8, .inl c_t_place)), (a_t_half, .inl (cI, 8, .inl c_t_half)), (a_t_power, .inl (cI, 8, .inl c_t_power)), (a_t_glass, .inl (cI, 8, .inl c_t_glass))] → va_S A s.heap H locs → lv_has ls 4 [(3, .int s1.1), (2, .int s1.2.1), (0, .ref a_t), (1, .int p1)] → lp (f_X8_throughNow_b1 p1 c_t_pieces c_t_thing c_t_screen c_t_tall c_t_place c_t_half c_t_power c_t_glass) n1 s1 = some R → W p l e rm_X8_throughNow s m av below meth c H locs 0 0 Q (F0 m 16 ls []) := by
      intro n1
      induction n1 with
      | zero => intro s1 H locs ls hP hD hS hl h; exact lp_0 h
      | succ n1 ih1 =>
        intro s1 H locs ls hP hD hS hl h
        replace h := lp_s h
        unfold f_X8_throughNow_b1 at h
        refine lv_iload_n hx hb dX8_throughNow_16 rfl (lv_at hl 0 rfl) ?_
        refine lv_bipush (v := (10 : Int32)) hx hb dX8_throughNow_17 (by decide) ?_
        refine lv_icmp_gt (tgt := 83) hx hb dX8_throughNow_19 (by decide) (fun q4 => ?_) (fun q4 => ?_)
        · replace h := ifp h q4
          refine lv_iload_n hx hb dX8_throughNow_83 rfl (lv_at hl 1 rfl) ?_
          rw [← some_e h] at hfin
          exact hfin 84 _ _ _ dX8_throughNow_84 rfl hP hD hS
        · replace h := ifn h q4
          refine lv_aload_n hx hb dX8_throughNow_22 rfl (lv_at hl 2 rfl) ?_
          refine lv_aload_n hx hb dX8_throughNow_23 rfl (lv_at hl 2 rfl) ?_
          refine va_get (D := D) (ci := 10) (v := .int c_t_tall) (C := RX8) (T := TX8) (N := 14) hx hb hts mc_X8_throughNow_X8 hown hK hP 0 rfl rfl 8 (by decide) (hts _ mf_X8_throughNow_26) (fun _ h9 => h9) rfl dX8_throughNow_24 ?_
          refine lv_i2d hx hb dX8_throughNow_27 ?_
          refine lv_ldc2d hx hb hown (hts _ mk_X8_throughNow_89) dX8_throughNow_28 ?_
          obtain ⟨g5, h⟩ := gd_e h
          refine lv_ddiv hx hb dX8_throughNow_31 (n64_n g5) ?_
          refine lv_iload_n hx hb dX8_throughNow_32 rfl (lv_at hl 0 rfl) ?_
          refine lv_i2d hx hb dX8_throughNow_33 ?_
          refine lv_ldc2d hx hb hown (hts _ mk_X8_throughNow_91) dX8_throughNow_34 ?_
          obtain ⟨g6, h⟩ := gd_e h
          refine lv_ddiv hx hb dX8_throughNow_37 (n64_n g6) ?_
          refine lv_iconst (v := (1 : Int32)) hx hb dX8_throughNow_38 (by decide) ?_
          refine lv_iconst (v := (-1 : Int32)) hx hb dX8_throughNow_39 (by decide) ?_
          obtain ⟨o7, e8, h⟩ := bd_e h
          refine co_v (W0 := [(a_t, .inr (10, [.int c_t_thrown, .int c_t_pieces, .ref a_t_place, .ref a_t_half, .ref a_t_power, .ref a_t_glass, .int c_t_thing, .int c_t_screen, .int c_t_tall, .int c_t_refused, .double s1.2.2.1, .double s1.2.2.2.1, .int s1.2.2.2.2, .long c_t_sum])), (a_t_place, .inl (cI, 8, .inl c_t_place)), (a_t_half, .inl (cI, 8, .inl c_t_half)), (a_t_power, .inl (cI, 8, .inl c_t_power)), (a_t_glass, .inl (cI, 8, .inl c_t_glass))]) (wr := []) (W1 := [(a_t, .inr (10, [.int c_t_thrown, .int c_t_pieces, .ref a_t_place, .ref a_t_half, .ref a_t_power, .ref a_t_glass, .int c_t_thing, .int c_t_screen, .int c_t_tall, .int c_t_refused, .double o7.1, .double o7.2.1, .int o7.2.2, .long c_t_sum])), (a_t_place, .inl (cI, 8, .inl c_t_place)), (a_t_half, .inl (cI, 8, .inl c_t_half)), (a_t_power, .inl (cI, 8, .inl c_t_power)), (a_t_glass, .inl (cI, 8, .inl c_t_glass))]) (ws2 := [(a_t, .inr (10, [.int c_t_thrown, .int c_t_pieces, .ref a_t_place, .ref a_t_half, .ref a_t_power, .ref a_t_glass, .int c_t_thing, .int c_t_screen, .int c_t_tall, .int c_t_refused, .double o7.1, .double o7.2.1, .int o7.2.2, .long c_t_sum])), (a_t_place, .inl (cI, 8, .inl c_t_place)), (a_t_half, .inl (cI, 8, .inl c_t_half)), (a_t_power, .inl (cI, 8, .inl c_t_power)), (a_t_glass, .inl (cI, 8, .inl c_t_glass))]) (va_runV (C := RX8) (As := [.double (FP.ddiv (FP.i2d c_t_tall) (4616189618054758400 : UInt64)), .double (FP.ddiv (FP.i2d s1.1) (4632233691727265792 : UInt64)), .int (1 : Int32), .int (-1 : Int32)]) (rest := []) ⟨hx, hb, hml, hown, hts⟩ (m_X8_go l D cI cD cB a_t a_t_place a_t_half a_t_power a_t_glass (FP.ddiv (FP.i2d c_t_tall) (4616189618054758400 : UInt64)) (FP.ddiv (FP.i2d s1.1) (4632233691727265792 : UInt64)) (1 : Int32) (-1 : Int32) c_t_thrown c_t_pieces c_t_thing c_t_screen c_t_tall c_t_refused s1.2.2.1 s1.2.2.2.1 s1.2.2.2.2 c_t_sum c_t_place c_t_half c_t_power c_t_glass o7 e8 _) (cwV 4 hts gX8_throughNow_X8_go rfl rfl rfl (by decide +kernel) ⟨Nat.le_of_ble_eq_true rfl, Nat.le_of_ble_eq_true rfl⟩) (my_preV (q := (RX8, TX8, 14)) (ci := 10) (q0 := 0) [0, 1, 2, 3, 4] hP hK hNM hZ hD hS hA rfl rfl rfl rfl) rfl rfl hl.1 rfl (lv_room (Nat.le_of_ble_eq_true rfl)) dX8_throughNow_40 ⟨Nat.zero_le _, Nat.zero_le _⟩) hP hD hS hA [0, 1, 2, 3, 4] [] [0, 1, 2, 3, 4] rfl rfl rfl rfl rfl (by decide) (fun H locs hP hD hS => ?_)
          refine lv_iload_n hx hb dX8_throughNow_43 rfl (lv_at hl 1 rfl) ?_
          refine lv_aload_n hx hb dX8_throughNow_44 rfl (lv_at hl 2 rfl) ?_
          refine va_get (D := D) (ci := 10) (v := .int o7.2.2) (C := RX8) (T := TX8) (N := 14) hx hb hts mc_X8_throughNow_X8 hown hK hP 0 rfl rfl 12 (by decide) (hts _ mf_X8_throughNow_73) (fun _ h9 => h9) rfl dX8_throughNow_45 ?_
          refine lv_iconst (v := (-1 : Int32)) hx hb dX8_throughNow_48 (by decide) ?_
          refine lv_icmp_eq (tgt := 70) hx hb dX8_throughNow_49 (by decide) (fun q9 => ?_) (fun q9 => ?_)
          · replace h := ifp h q9
            refine lv_iconst (v := (1 : Int32)) hx hb dX8_throughNow_70 (by decide) ?_
            refine lv_goto (tgt := 75) hx hb dX8_throughNow_71 (by decide) ?_
            refine lv_iadd hx hb dX8_throughNow_75 ?_
            refine lv_istore_n (lv' := [(2, .int (s1.2.1 + (1 : Int32))), (3, .int s1.1), (0, .ref a_t), (1, .int p1)]) hx hb dX8_throughNow_76 rfl hl (by decide) rfl (fun ls hl => ?_)
            refine lv_iinc (v := (s1.1 + (1 : Int32))) (lv' := [(3, .int (s1.1 + (1 : Int32))), (2, .int (s1.2.1 + (1 : Int32))), (0, .ref a_t), (1, .int p1)]) hx hb dX8_throughNow_77 hl (k := 1) rfl rfl (by decide) rfl (fun ls hl => ?_)
            refine lv_goto (tgt := 16) hx hb dX8_throughNow_80 (by decide) ?_
            exact ih1 ((s1.1 + (1 : Int32)), (s1.2.1 + (1 : Int32)), o7.1, o7.2.1, o7.2.2) _ _ _ hP hD hS (lv_sub hl [0, 1, 2, 3] rfl) h
          · replace h := ifn h q9
            refine lv_aload_n hx hb dX8_throughNow_52 rfl (lv_at hl 2 rfl) ?_
            refine va_get (D := D) (ci := 10) (v := .ref a_t_place) (C := RX8) (T := TX8) (N := 14) hx hb hts mc_X8_throughNow_X8 hown hK hP 0 rfl rfl 2 (by decide) (hts _ mf_X8_throughNow_9) (fun _ h9 => h9) rfl dX8_throughNow_53 ?_
            refine lv_aload_n hx hb dX8_throughNow_56 rfl (lv_at hl 2 rfl) ?_
            refine va_get (D := D) (ci := 10) (v := .int o7.2.2) (C := RX8) (T := TX8) (N := 14) hx hb hts mc_X8_throughNow_X8 hown hK hP 0 rfl rfl 12 (by decide) (hts _ mf_X8_throughNow_73) (fun _ h9 => h9) rfl dX8_throughNow_57 ?_
            obtain ⟨g10, h⟩ := gd_e h
            refine va_iald hx hb hK hP 1 0 rfl rfl (vin_in g10) dX8_throughNow_60 ?_
            refine lv_aload_n hx hb dX8_throughNow_61 rfl (lv_at hl 2 rfl) ?_
            refine va_get (D := D) (ci := 10) (v := .ref a_t_place) (C := RX8) (T := TX8) (N := 14) hx hb hts mc_X8_throughNow_X8 hown hK hP 0 rfl rfl 2 (by decide) (hts _ mf_X8_throughNow_9) (fun _ h9 => h9) rfl dX8_throughNow_62 ?_
            refine lv_iload_n hx hb dX8_throughNow_65 rfl (lv_at hl 3 rfl) ?_
            obtain ⟨g11, h⟩ := gd_e h
            refine va_iald hx hb hK hP 1 0 rfl rfl (vin_in g11) dX8_throughNow_66 ?_
            refine lv_icmp_le (tgt := 74) hx hb dX8_throughNow_67 (by decide) (fun q12 => ?_) (fun q12 => ?_)
            · replace h := ifp h q12
              refine lv_iconst (v := (0 : Int32)) hx hb dX8_throughNow_74 (by decide) ?_
              refine lv_iadd hx hb dX8_throughNow_75 ?_
              refine lv_istore_n (lv' := [(2, .int (s1.2.1 + (0 : Int32))), (3, .int s1.1), (0, .ref a_t), (1, .int p1)]) hx hb dX8_throughNow_76 rfl hl (by decide) rfl (fun ls hl => ?_)
              refine lv_iinc (v := (s1.1 + (1 : Int32))) (lv' := [(3, .int (s1.1 + (1 : Int32))), (2, .int (s1.2.1 + (0 : Int32))), (0, .ref a_t), (1, .int p1)]) hx hb dX8_throughNow_77 hl (k := 1) rfl rfl (by decide) rfl (fun ls hl => ?_)
              refine lv_goto (tgt := 16) hx hb dX8_throughNow_80 (by decide) ?_
              exact ih1 ((s1.1 + (1 : Int32)), (s1.2.1 + (0 : Int32)), o7.1, o7.2.1, o7.2.2) _ _ _ hP hD hS (lv_sub hl [0, 1, 2, 3] rfl) h
            · replace h := ifn h q12
              refine lv_iconst (v := (1 : Int32)) hx hb dX8_throughNow_70 (by decide) ?_
              refine lv_goto (tgt := 75) hx hb dX8_throughNow_71 (by decide) ?_
              refine lv_iadd hx hb dX8_throughNow_75 ?_
              refine lv_istore_n (lv' := [(2, .int (s1.2.1 + (1 : Int32))), (3, .int s1.1), (0, .ref a_t), (1, .int p1)]) hx hb dX8_throughNow_76 rfl hl (by decide) rfl (fun ls hl => ?_)
              refine lv_iinc (v := (s1.1 + (1 : Int32))) (lv' := [(3, .int (s1.1 + (1 : Int32))), (2, .int (s1.2.1 + (1 : Int32))), (0, .ref a_t), (1, .int p1)]) hx hb dX8_throughNow_77 hl (k := 1) rfl rfl (by decide) rfl (fun ls hl => ?_)
              refine lv_goto (tgt := 16) hx hb dX8_throughNow_80 (by decide) ?_
              exact ih1 ((s1.1 + (1 : Int32)), (s1.2.1 + (1 : Int32)), o7.1, o7.2.1, o7.2.2) _ _ _ hP hD hS (lv_sub hl [0, 1, 2, 3] rfl) h
    exact LOOP1 1000 ((-10 : Int32), (0 : Int32), c_t_height, c_t_slope, c_t_cut) _ _ _ hP hD hS hl h
  · replace h := ifp h q3
    refine lv_iconst (v := (0 : Int32)) hx hb dX8_throughNow_9 (by decide) ?_
    rw [← some_e h] at hfin
    exact hfin 10 _ _ _ dX8_throughNow_10 rfl hP hD hS
