/-! SHORT TEXTS: what the walks of the JDK's text code ask of numbers. -/
theorem tx_le : ∀ k, k ≤ 10 → (0 : Int32) ≤ nI k := by decide +kernel
theorem tx_neg : ∀ k, k ≤ 10 → ¬ nI k - (0 : Int32) < 0 := by decide +kernel
theorem tx_nn : ∀ k, k ≤ 10 → ¬ nI k < 0 := by decide +kernel
theorem tx_sub : ∀ k, k ≤ 10 → (nI k - (0 : Int32)).toNatClampNeg = k := by decide +kernel
theorem tx_cl : ∀ k, k ≤ 10 → (nI k).toNatClampNeg = k := by decide +kernel
theorem tx_min (k cap : Nat) (hk : k ≤ 10) (hcap : cap = 16 ∨ cap = 17) : (if nI k - (0 : Int32) < Int32.ofNat cap - (0 : Int32) then nI k - (0 : Int32) else Int32.ofNat cap - (0 : Int32)) = nI k := by
  rcases hcap with rfl | rfl
  · revert k; decide +kernel
  · revert k; decide +kernel
theorem tx_ne (k cap : Nat) (hk : k ≤ 10) (hcap : cap = 16 ∨ cap = 17) : ¬ nI k = Int32.ofNat cap := by
  rcases hcap with rfl | rfl
  · revert k; decide +kernel
  · revert k; decide +kernel
theorem mc_J5_isLatin1_aae02_J4 : ∀ w ∈ wsJ40, w ∈ wsJ5_isLatin1_aae02 := by decide +kernel
theorem mj_J5_isLatin1_aae02_f18 : Cond.fieldLink RJ5 18 "java/lang/String" "COMPACT_STRINGS" "Z" ∈ wsJ5_isLatin1_aae02 := by decide +kernel
theorem mj_J5_isLatin1_aae02_f22 : Cond.fieldLink RJ5 22 "java/lang/AbstractStringBuilder" "coder" "B" ∈ wsJ5_isLatin1_aae02 := by decide +kernel
abbrev rm_J5_isLatin1_aae02 : Room := { frames := 0, cells := 0, slots := 0, locals := 0 }
set_option maxHeartbeats 4000000 in
set_option maxRecDepth 100000 in
theorem j_J5_isLatin1_aae02 (l : Launch) (D : va_G) (cI cD cB : ClassId) (a : Nat) (v : Nat) (ml : Int32) (n : Int32) : Ci l yJ5_isLatin1_aae02 wsJ5_isLatin1_aae02 rm_J5_isLatin1_aae02 D (TT cI cD cB) [.ref a] [(a, .inr (1, [.ref v, .int (0 : Int32), .int ml, .int n]))] [(a, .inr (1, [.ref v, .int (0 : Int32), .int ml, .int n]))] (1 : Int32) 0 0 := by
  refine st_i (cc := cJ5_isLatin1_aae02) (maxL := 1) (by decide) rfl (Nat.le_of_ble_eq_true rfl) (fun p e s m av below meth c A Q ls hx hb hml hts hown hA hK hNM hZ hP hD hS hl hfin => ?_)
  have hown : s.vm.findClass RJ5 = some m.cls := hown
  have hl : lv_has ls 1 [(0, .ref a)] := hl
  refine va_gets hx hb hZ.2.2.1 hS hown (hts _ mj_J5_isLatin1_aae02_f18) (fun _ h9 => h9) dJ5_isLatin1_aae02_0 ?_
  refine lv_if_eq (tgt := 17) hx hb dJ5_isLatin1_aae02_3 (by decide) (fun q => absurd q (by decide)) (fun _ => ?_)
  refine lv_aload_n hx hb dJ5_isLatin1_aae02_6 rfl (lv_at hl 0 rfl) ?_
  refine va_get (D := D) (ci := 1) (v := .int (0 : Int32)) (C := RJ4) (T := TJ4) (N := 4) hx hb hts mc_J5_isLatin1_aae02_J4 hown hK hP 0 rfl rfl 1 (by decide) (hts _ mj_J5_isLatin1_aae02_f22) (fun _ h9 => h9) rfl dJ5_isLatin1_aae02_7 ?_
  refine lv_if_ne (tgt := 17) hx hb dJ5_isLatin1_aae02_10 (by decide) (fun q => absurd q (by decide)) (fun _ => ?_)
  refine lv_iconst (v := (1 : Int32)) hx hb dJ5_isLatin1_aae02_13 (by decide) ?_
  refine lv_goto (tgt := 18) hx hb dJ5_isLatin1_aae02_14 (by decide) ?_
  exact hfin 18 _ _ _ dJ5_isLatin1_aae02_18 rfl hP hD hS
theorem mc_J5_ensureCapacityInternal_d00df_J4 : ∀ w ∈ wsJ40, w ∈ wsJ5_ensureCapacityInternal_d00df := by decide +kernel
theorem mj_J5_ensureCapacityInternal_d00df_f15 : Cond.fieldLink RJ5 15 "java/lang/AbstractStringBuilder" "value" "[B" ∈ wsJ5_ensureCapacityInternal_d00df := by decide +kernel
theorem mj_J5_ensureCapacityInternal_d00df_f22 : Cond.fieldLink RJ5 22 "java/lang/AbstractStringBuilder" "coder" "B" ∈ wsJ5_ensureCapacityInternal_d00df := by decide +kernel
abbrev rm_J5_ensureCapacityInternal_d00df : Room := { frames := 0, cells := 0, slots := 0, locals := 0 }
set_option maxHeartbeats 4000000 in
set_option maxRecDepth 100000 in
theorem j_J5_ensureCapacityInternal_d00df (l : Launch) (D : va_G) (cI cD cB : ClassId) (a : Nat) (v : Nat) (ml : Int32) (n : Int32) (cap : Nat) (g : Nat → Int32) (q : Int32) (hq : q - Int32.ofNat cap ≤ 0) : Cv l yJ5_ensureCapacityInternal_d00df wsJ5_ensureCapacityInternal_d00df rm_J5_ensureCapacityInternal_d00df D (TT cI cD cB) [.ref a, .int q] [(a, .inr (1, [.ref v, .int (0 : Int32), .int ml, .int n])), (v, .inl (cB, cap, .inl g))] [(a, .inr (1, [.ref v, .int (0 : Int32), .int ml, .int n])), (v, .inl (cB, cap, .inl g))] 0 0 := by
  refine st_v (cc := cJ5_ensureCapacityInternal_d00df) (maxL := 3) (by decide) rfl (Nat.le_of_ble_eq_true rfl) (fun p e s m av below meth c A Q ls hx hb hml hts hown hA hK hNM hZ hP hD hS hl hfin => ?_)
  have hown : s.vm.findClass RJ5 = some m.cls := hown
  have hl : lv_has ls 3 [(0, .ref a), (1, .int q)] := hl
  refine lv_aload_n hx hb dJ5_ensureCapacityInternal_d00df_0 rfl (lv_at hl 0 rfl) ?_
  refine va_get (D := D) (ci := 1) (v := .ref v) (C := RJ4) (T := TJ4) (N := 4) hx hb hts mc_J5_ensureCapacityInternal_d00df_J4 hown hK hP 0 rfl rfl 0 (by decide) (hts _ mj_J5_ensureCapacityInternal_d00df_f15) (fun _ h9 => h9) rfl dJ5_ensureCapacityInternal_d00df_1 ?_
  refine va_alen hx hb hK hP 1 2 rfl rfl (v := Int32.ofNat cap) rfl dJ5_ensureCapacityInternal_d00df_4 ?_
  refine lv_aload_n hx hb dJ5_ensureCapacityInternal_d00df_5 rfl (lv_at hl 0 rfl) ?_
  refine va_get (D := D) (ci := 1) (v := .int (0 : Int32)) (C := RJ4) (T := TJ4) (N := 4) hx hb hts mc_J5_ensureCapacityInternal_d00df_J4 hown hK hP 0 rfl rfl 1 (by decide) (hts _ mj_J5_ensureCapacityInternal_d00df_f22) (fun _ h9 => h9) rfl dJ5_ensureCapacityInternal_d00df_6 ?_
  refine lv_ishr hx hb dJ5_ensureCapacityInternal_d00df_9 ?_
  rw [sb_shr0]
  refine lv_istore_n (lv' := [(2, .int (Int32.ofNat cap)), (0, .ref a), (1, .int q)]) hx hb dJ5_ensureCapacityInternal_d00df_10 rfl hl (by decide) rfl (fun ls hl => ?_)
  refine lv_iload_n hx hb dJ5_ensureCapacityInternal_d00df_11 rfl (lv_at hl 2 rfl) ?_
  refine lv_iload_n hx hb dJ5_ensureCapacityInternal_d00df_12 rfl (lv_at hl 0 rfl) ?_
  refine lv_isub hx hb dJ5_ensureCapacityInternal_d00df_13 ?_
  refine lv_if_le (tgt := 38) hx hb dJ5_ensureCapacityInternal_d00df_14 (by decide) (fun _ => ?_) (fun q => absurd hq q)
  exact hfin 38 _ _ _ dJ5_ensureCapacityInternal_d00df_38 hP hD hS
abbrev rm_J1_canEncode_fc78d : Room := { frames := 0, cells := 0, slots := 0, locals := 0 }
set_option maxHeartbeats 4000000 in
set_option maxRecDepth 100000 in
theorem j_J1_canEncode_fc78d (l : Launch) (D : va_G) (cI cD cB : ClassId) (ch : Int32) (hc : ch ≤ 255) : Ci l yJ1_canEncode_fc78d wsJ1_canEncode_fc78d rm_J1_canEncode_fc78d D (TT cI cD cB) [.int ch] [] [] (1 : Int32) 0 0 := by
  refine st_i (cc := cJ1_canEncode_fc78d) (maxL := 1) (by decide) rfl (Nat.le_of_ble_eq_true rfl) (fun p e s m av below meth c A Q ls hx hb hml hts hown hA hK hNM hZ hP hD hS hl hfin => ?_)
  have hown : s.vm.findClass RJ1 = some m.cls := hown
  have hl : lv_has ls 1 [(0, .int ch)] := hl
  refine lv_iload_n hx hb dJ1_canEncode_fc78d_0 rfl (lv_at hl 0 rfl) ?_
  refine lv_sipush (v := (255 : Int32)) hx hb dJ1_canEncode_fc78d_1 (by decide) ?_
  refine lv_icmp_gt (tgt := 11) hx hb dJ1_canEncode_fc78d_4 (by decide) (fun q => absurd q (Int32.not_lt.mpr hc)) (fun _ => ?_)
  refine lv_iconst (v := (1 : Int32)) hx hb dJ1_canEncode_fc78d_7 (by decide) ?_
  refine lv_goto (tgt := 12) hx hb dJ1_canEncode_fc78d_8 (by decide) ?_
  exact hfin 12 _ _ _ dJ1_canEncode_fc78d_12 rfl hP hD hS
theorem mc_J5_append_3fe6f_J4 : ∀ w ∈ wsJ40, w ∈ wsJ5_append_3fe6f := by decide +kernel
theorem mj_J5_append_3fe6f_f15 : Cond.fieldLink RJ5 15 "java/lang/AbstractStringBuilder" "value" "[B" ∈ wsJ5_append_3fe6f := by decide +kernel
theorem mj_J5_append_3fe6f_f79 : Cond.fieldLink RJ5 79 "java/lang/AbstractStringBuilder" "count" "I" ∈ wsJ5_append_3fe6f := by decide +kernel
abbrev rm_J5_append_3fe6f : Room := { frames := 1, cells := 0, slots := 0, locals := 22 }
set_option maxHeartbeats 4000000 in
set_option maxRecDepth 100000 in
theorem j_J5_append_3fe6f (l : Launch) (D : va_G) (cI cD cB : ClassId) (a : Nat) (v : Nat) (ml : Int32) (n : Int32) (cap : Nat) (g : Nat → Int32) (ch : Int32) (hc : ch ≤ 255) (h1 : n + (1 : Int32) - Int32.ofNat cap ≤ 0) (h2 : vp_in n cap) : Cg l yJ5_append_3fe6f wsJ5_append_3fe6f rm_J5_append_3fe6f D (TT cI cD cB) [.ref a, .int ch] [(a, .inr (1, [.ref v, .int (0 : Int32), .int ml, .int n])), (v, .inl (cB, cap, .inl g))] (fun u : Nat → Nat => a) (fun u : Nat → Nat => [(a, .inr (1, [.ref v, .int (0 : Int32), .int ml, .int (n + (1 : Int32))])), (v, .inl (cB, cap, .inl (upd g (n).toNatClampNeg (vp_nar .byte ((ch).toInt8.toInt32)))))]) 0 0 := by
  refine st_g (Or.inl ⟨_, rfl⟩) (cc := cJ5_append_3fe6f) (maxL := 2) (by decide) rfl (Nat.le_of_ble_eq_true rfl) (fun p e s m av below meth c A Q ls hx hb hml hts hown hin hA hK hNM hZ hP hD hS hl hfin => ?_)
  have hown : s.vm.findClass RJ5 = some m.cls := hown
  have hl : lv_has ls 2 [(0, .ref a), (1, .int ch)] := hl
  refine lv_aload_n hx hb dJ5_append_3fe6f_0 rfl (lv_at hl 0 rfl) ?_
  refine lv_aload_n hx hb dJ5_append_3fe6f_1 rfl (lv_at hl 0 rfl) ?_
  refine va_get (D := D) (ci := 1) (v := .int n) (C := RJ4) (T := TJ4) (N := 4) hx hb hts mc_J5_append_3fe6f_J4 hown hK hP 0 rfl rfl 3 (by decide) (hts _ mj_J5_append_3fe6f_f79) (fun _ h9 => h9) rfl dJ5_append_3fe6f_2 ?_
  refine lv_iconst (v := (1 : Int32)) hx hb dJ5_append_3fe6f_5 (by decide) ?_
  refine lv_iadd hx hb dJ5_append_3fe6f_6 ?_
  refine co_v (W0 := [(a, .inr (1, [.ref v, .int (0 : Int32), .int ml, .int n])), (v, .inl (cB, cap, .inl g))]) (wr := []) (W1 := [(a, .inr (1, [.ref v, .int (0 : Int32), .int ml, .int n])), (v, .inl (cB, cap, .inl g))]) (ws2 := [(a, .inr (1, [.ref v, .int (0 : Int32), .int ml, .int n])), (v, .inl (cB, cap, .inl g))]) (va_runU (C := RJ4) (As := [.int (n + (1 : Int32))]) (rest := []) ⟨hx, hb, hml, hown, hts⟩ (j_J5_ensureCapacityInternal_d00df l D cI cD cB a v ml n cap g (n + (1 : Int32)) h1 _) (va_cwU 1 hts gJ5_append_3fe6f_J5_ensureCapacityInternal_d00df_u100J4 rfl rfl rfl rfl ⟨by decide, by decide, by decide +kernel⟩ ⟨Nat.le_of_ble_eq_true rfl, Nat.le_of_ble_eq_true rfl⟩) (my_preV (q := (RJ4, TJ4, 4)) (ci := 1) (q0 := 0) [0, 1] hP hK hNM hZ hD hS hA rfl rfl rfl rfl) rfl rfl hl.1 rfl (lv_room (Nat.le_of_ble_eq_true rfl)) dJ5_append_3fe6f_7 ⟨Nat.le_of_ble_eq_true rfl, Nat.le_of_ble_eq_true rfl⟩) hP hD hS hA [0, 1] [] [0, 1] rfl rfl rfl rfl rfl (by decide) (fun H locs hP hD hS => ?_)
  have hP : va_P D vwCl [(a, .inr (1, [.ref v, .int (0 : Int32), .int ml, .int n])), (v, .inl (cB, cap, .inl g))] H := hP
  have hD : va_D A [(a, .inr (1, [.ref v, .int (0 : Int32), .int ml, .int n])), (v, .inl (cB, cap, .inl g))] := hD
  refine lv_aload_n hx hb dJ5_append_3fe6f_10 rfl (lv_at hl 0 rfl) ?_
  refine co_i (W0 := [(a, .inr (1, [.ref v, .int (0 : Int32), .int ml, .int n]))]) (wr := [(v, .inl (cB, cap, .inl g))]) (W1 := [(a, .inr (1, [.ref v, .int (0 : Int32), .int ml, .int n]))]) (ws2 := [(a, .inr (1, [.ref v, .int (0 : Int32), .int ml, .int n])), (v, .inl (cB, cap, .inl g))]) (va_runU (C := RJ4) (As := []) (rest := []) ⟨hx, hb, hml, hown, hts⟩ (j_J5_isLatin1_aae02 l D cI cD cB a v ml n _) (va_cwU 0 hts gJ5_append_3fe6f_J5_isLatin1_aae02_u83J4 rfl rfl rfl rfl ⟨by decide, by decide, by decide +kernel⟩ ⟨Nat.le_of_ble_eq_true rfl, Nat.le_of_ble_eq_true rfl⟩) (my_preV (q := (RJ4, TJ4, 4)) (ci := 1) (q0 := 0) [0] hP hK hNM hZ hD hS hA rfl rfl rfl rfl) rfl rfl hl.1 rfl (lv_room (Nat.le_of_ble_eq_true rfl)) dJ5_append_3fe6f_11 ⟨Nat.le_of_ble_eq_true rfl, Nat.le_of_ble_eq_true rfl⟩) hP hD hS hA [0] [1] [1, 0] rfl rfl rfl rfl rfl (by decide) (fun H locs hP hD hS => ?_)
  have hP : va_P D vwCl [(a, .inr (1, [.ref v, .int (0 : Int32), .int ml, .int n])), (v, .inl (cB, cap, .inl g))] H := hP
  have hD : va_D A [(a, .inr (1, [.ref v, .int (0 : Int32), .int ml, .int n])), (v, .inl (cB, cap, .inl g))] := hD
  refine lv_if_eq (tgt := 45) hx hb dJ5_append_3fe6f_14 (by decide) (fun q => absurd q (by decide)) (fun _ => ?_)
  refine lv_iload_n hx hb dJ5_append_3fe6f_17 rfl (lv_at hl 1 rfl) ?_
  refine co_i (W0 := []) (wr := [(a, .inr (1, [.ref v, .int (0 : Int32), .int ml, .int n])), (v, .inl (cB, cap, .inl g))]) (W1 := []) (ws2 := [(a, .inr (1, [.ref v, .int (0 : Int32), .int ml, .int n])), (v, .inl (cB, cap, .inl g))]) (va_runS (As := [.int ch]) (rest := []) ⟨hx, hb, hml, hown, hts⟩ (j_J1_canEncode_fc78d l D cI cD cB ch hc _) (va_cwS 1 hts gJ5_append_3fe6f_J1_canEncode_fc78d rfl rfl rfl (by decide +kernel) ⟨Nat.le_of_ble_eq_true rfl, Nat.le_of_ble_eq_true rfl⟩) (my_preS [] hP hK hNM hZ hD hS hA rfl rfl) rfl rfl hl.1 rfl (lv_room (Nat.le_of_ble_eq_true rfl)) dJ5_append_3fe6f_18 ⟨Nat.le_of_ble_eq_true rfl, Nat.le_of_ble_eq_true rfl⟩) hP hD hS hA [] [0, 1] [0, 1] rfl rfl rfl rfl rfl (by decide) (fun H locs hP hD hS => ?_)
  have hP : va_P D vwCl [(a, .inr (1, [.ref v, .int (0 : Int32), .int ml, .int n])), (v, .inl (cB, cap, .inl g))] H := hP
  have hD : va_D A [(a, .inr (1, [.ref v, .int (0 : Int32), .int ml, .int n])), (v, .inl (cB, cap, .inl g))] := hD
  refine lv_if_eq (tgt := 45) hx hb dJ5_append_3fe6f_21 (by decide) (fun q => absurd q (by decide)) (fun _ => ?_)
  refine lv_aload_n hx hb dJ5_append_3fe6f_24 rfl (lv_at hl 0 rfl) ?_
  refine va_get (D := D) (ci := 1) (v := .ref v) (C := RJ4) (T := TJ4) (N := 4) hx hb hts mc_J5_append_3fe6f_J4 hown hK hP 0 rfl rfl 0 (by decide) (hts _ mj_J5_append_3fe6f_f15) (fun _ h9 => h9) rfl dJ5_append_3fe6f_25 ?_
  refine lv_aload_n hx hb dJ5_append_3fe6f_28 rfl (lv_at hl 0 rfl) ?_
  refine lv_dup hx hb dJ5_append_3fe6f_29 rfl ?_
  refine va_get (D := D) (ci := 1) (v := .int n) (C := RJ4) (T := TJ4) (N := 4) hx hb hts mc_J5_append_3fe6f_J4 hown hK hP 0 rfl rfl 3 (by decide) (hts _ mj_J5_append_3fe6f_f79) (fun _ h9 => h9) rfl dJ5_append_3fe6f_30 ?_
  refine lv_dup_x1 hx hb dJ5_append_3fe6f_33 rfl rfl ?_
  refine lv_iconst (v := (1 : Int32)) hx hb dJ5_append_3fe6f_34 (by decide) ?_
  refine lv_iadd hx hb dJ5_append_3fe6f_35 ?_
  refine va_put (D := D) (ci := 1) (v := .int (n + (1 : Int32))) (ty := .int) (C := RJ4) (T := TJ4) (N := 4) hx hb hts mc_J5_append_3fe6f_J4 tyJ4 tyJ4_ok nmJ4 hown hK hP hD hS 0 rfl rfl 3 (by decide) (hts _ mj_J5_append_3fe6f_f79) (fun _ h9 => h9) rfl (tyJ4_ok 3 (by decide)) rfl rfl (Nat.le_of_ble_eq_true rfl) dJ5_append_3fe6f_36 (fun H locs hP hD hS => ?_)
  have hP : va_P D vwCl [(a, .inr (1, [.ref v, .int (0 : Int32), .int ml, .int (n + (1 : Int32))])), (v, .inl (cB, cap, .inl g))] H := hP
  have hD : va_D A [(a, .inr (1, [.ref v, .int (0 : Int32), .int ml, .int (n + (1 : Int32))])), (v, .inl (cB, cap, .inl g))] := hD
  refine lv_iload_n hx hb dJ5_append_3fe6f_39 rfl (lv_at hl 1 rfl) ?_
  refine lv_i2b hx hb dJ5_append_3fe6f_40 rfl ?_
  refine va_bast hx hb hK hP hD hS 1 2 rfl rfl h2 dJ5_append_3fe6f_41 (fun H locs hP hD hS => ?_)
  have hP : va_P D vwCl [(a, .inr (1, [.ref v, .int (0 : Int32), .int ml, .int (n + (1 : Int32))])), (v, .inl (cB, cap, .inl (upd g (n).toNatClampNeg (vp_nar .byte ((ch).toInt8.toInt32)))))] H := hP
  have hD : va_D A [(a, .inr (1, [.ref v, .int (0 : Int32), .int ml, .int (n + (1 : Int32))])), (v, .inl (cB, cap, .inl (upd g (n).toNatClampNeg (vp_nar .byte ((ch).toInt8.toInt32)))))] := hD
  refine lv_goto (tgt := 75) hx hb dJ5_append_3fe6f_42 (by decide) ?_
  refine lv_aload_n hx hb dJ5_append_3fe6f_75 rfl (lv_at hl 0 rfl) ?_
  exact hfin 76 _ _ _ (fun k => ([] : List Nat).getD k 0) dJ5_append_3fe6f_76 hP hD hS
abbrev rm_J4_append_cf468 : Room := { frames := 2, cells := 0, slots := 0, locals := 43 }
set_option maxHeartbeats 4000000 in
set_option maxRecDepth 100000 in
theorem j_J4_append_cf468 (l : Launch) (D : va_G) (cI cD cB : ClassId) (a : Nat) (v : Nat) (ml : Int32) (n : Int32) (cap : Nat) (g : Nat → Int32) (ch : Int32) (hc : ch ≤ 255) (h1 : n + (1 : Int32) - Int32.ofNat cap ≤ 0) (h2 : vp_in n cap) : Cg l yJ4_append_cf468 wsJ4_append_cf468 rm_J4_append_cf468 D (TT cI cD cB) [.ref a, .int ch] [(a, .inr (1, [.ref v, .int (0 : Int32), .int ml, .int n])), (v, .inl (cB, cap, .inl g))] (fun u : Nat → Nat => a) (fun u : Nat → Nat => [(a, .inr (1, [.ref v, .int (0 : Int32), .int ml, .int (n + (1 : Int32))])), (v, .inl (cB, cap, .inl (upd g (n).toNatClampNeg (vp_nar .byte ((ch).toInt8.toInt32)))))]) 0 0 := by
  refine st_g (Or.inl ⟨_, rfl⟩) (cc := cJ4_append_cf468) (maxL := 2) (by decide) rfl (Nat.le_of_ble_eq_true rfl) (fun p e s m av below meth c A Q ls hx hb hml hts hown hin hA hK hNM hZ hP hD hS hl hfin => ?_)
  have hown : s.vm.findClass RJ4 = some m.cls := hown
  have hl : lv_has ls 2 [(0, .ref a), (1, .int ch)] := hl
  refine lv_aload_n hx hb dJ4_append_cf468_0 rfl (lv_at hl 0 rfl) ?_
  refine lv_iload_n hx hb dJ4_append_cf468_1 rfl (lv_at hl 1 rfl) ?_
  refine co_g (W0 := [(a, .inr (1, [.ref v, .int (0 : Int32), .int ml, .int n])), (v, .inl (cB, cap, .inl g))]) (wr := []) (W1 := (fun u1 : Nat → Nat => [(a, .inr (1, [.ref v, .int (0 : Int32), .int ml, .int (n + (1 : Int32))])), (v, .inl (cB, cap, .inl (upd g (n).toNatClampNeg (vp_nar .byte ((ch).toInt8.toInt32)))))])) (ws2 := (fun u1 : Nat → Nat => [(a, .inr (1, [.ref v, .int (0 : Int32), .int ml, .int (n + (1 : Int32))])), (v, .inl (cB, cap, .inl (upd g (n).toNatClampNeg (vp_nar .byte ((ch).toInt8.toInt32)))))])) (r := (fun u1 : Nat → Nat => a)) (va_runSU (hK.1 1 (RJ4, TJ4, 4) rfl).2 (C := RJ4) (As := [.int ch]) (rest := []) ⟨hx, hb, hml, hown, hts⟩ (j_J5_append_3fe6f l D cI cD cB a v ml n cap g ch hc h1 h2 _) (va_cwSU 1 hts gJ4_append_cf468_J5_append_3fe6f_s50 rfl rfl rfl ⟨by decide, by decide +kernel⟩ ⟨Nat.le_of_ble_eq_true rfl, Nat.le_of_ble_eq_true rfl⟩) (my_preV (q := (RJ4, TJ4, 4)) (ci := 1) (q0 := 0) [0, 1] hP hK hNM hZ hD hS hA rfl rfl rfl rfl) rfl rfl hl.1 rfl (lv_room (Nat.le_of_ble_eq_true rfl)) dJ4_append_cf468_2 ⟨Nat.le_of_ble_eq_true rfl, Nat.le_of_ble_eq_true rfl⟩) hP hD hS hA [0, 1] [] [0, 1] rfl rfl (fun _ => rfl) rfl rfl (by decide) (fun u1 H locs hP hD hS => ?_)
  have hP : va_P D vwCl [(a, .inr (1, [.ref v, .int (0 : Int32), .int ml, .int (n + (1 : Int32))])), (v, .inl (cB, cap, .inl (upd g (n).toNatClampNeg (vp_nar .byte ((ch).toInt8.toInt32)))))] H := hP
  have hD : va_D A [(a, .inr (1, [.ref v, .int (0 : Int32), .int ml, .int (n + (1 : Int32))])), (v, .inl (cB, cap, .inl (upd g (n).toNatClampNeg (vp_nar .byte ((ch).toInt8.toInt32)))))] := hD
  refine lv_pop hx hb dJ4_append_cf468_5 rfl ?_
  refine lv_aload_n hx hb dJ4_append_cf468_6 rfl (lv_at hl 0 rfl) ?_
  exact hfin 7 _ _ _ (fun k => ([] : List Nat).getD k 0) dJ4_append_cf468_7 hP hD hS
theorem mc_J5_init_d00df_J4 : ∀ w ∈ wsJ40, w ∈ wsJ5_init_d00df := by decide +kernel
theorem mj_J5_init_d00df_ab : Cond.arrayClass .byte ∈ wsJ5_init_d00df := by decide +kernel
theorem mj_J5_init_d00df_f15 : Cond.fieldLink RJ5 15 "java/lang/AbstractStringBuilder" "value" "[B" ∈ wsJ5_init_d00df := by decide +kernel
theorem mj_J5_init_d00df_f18 : Cond.fieldLink RJ5 18 "java/lang/String" "COMPACT_STRINGS" "Z" ∈ wsJ5_init_d00df := by decide +kernel
theorem mj_J5_init_d00df_f22 : Cond.fieldLink RJ5 22 "java/lang/AbstractStringBuilder" "coder" "B" ∈ wsJ5_init_d00df := by decide +kernel
theorem mj_J5_init_d00df_oc : Cond.code objectInit ⟨#[0xb1]⟩ 1 none ∈ wsJ5_init_d00df := by decide +kernel
theorem mj_J5_init_d00df_oi : Cond.methodLink RJ5 3 objectInit ∈ wsJ5_init_d00df := by decide +kernel
theorem mj_J5_init_d00df_oo : Cond.instanceMethod objectInit ∈ wsJ5_init_d00df := by decide +kernel
abbrev rm_J5_init_d00df : Room := { frames := 1, cells := 1, slots := 20, locals := 12 }
set_option maxHeartbeats 4000000 in
set_option maxRecDepth 100000 in
theorem j_J5_init_d00df (l : Launch) (D : va_G) (cI cD cB : ClassId) (a : Nat) : Ck l yJ5_init_d00df wsJ5_init_d00df rm_J5_init_d00df D (TT cI cD cB) [.ref a, .int (16 : Int32)] [(a, .inr (1, [.null, .int 0, .int 0, .int 0]))] (fun u : Nat → Nat => [(a, .inr (1, [.ref (u 0), .int (0 : Int32), .int 0, .int 0])), (u 0, .inl (cB, 16, .inl (fun _ => 0)))]) 1 20 := by
  refine st_k (cc := cJ5_init_d00df) (maxL := 2) (by decide) rfl (Nat.le_of_ble_eq_true rfl) (fun p e s m av below meth c A Q ls hx hb hml hts hown hin hA hK hNM hZ hP hD hS hl hfin => ?_)
  have hown : s.vm.findClass RJ5 = some m.cls := hown
  have hl : lv_has ls 2 [(0, .ref a), (1, .int (16 : Int32))] := hl
  refine lv_aload_n hx hb dJ5_init_d00df_0 rfl (lv_at hl 0 rfl) ?_
  refine W.objInit hx hb hown (hts _ mj_J5_init_d00df_oi) (hts _ mj_J5_init_d00df_oo) (hts _ mj_J5_init_d00df_oc) rfl (by rw [hml]; exact hl.1) rfl dJ5_init_d00df_1 (Nat.le_of_ble_eq_true rfl) (Nat.le_of_ble_eq_true rfl) ?_
  refine W.eq (g2 := F0 m 4 ls []) rfl ?_
  refine va_gets hx hb hZ.2.2.1 hS hown (hts _ mj_J5_init_d00df_f18) (fun _ h9 => h9) dJ5_init_d00df_4 ?_
  refine lv_if_eq (tgt := 25) hx hb dJ5_init_d00df_7 (by decide) (fun q => absurd q (by decide)) (fun _ => ?_)
  refine lv_aload_n hx hb dJ5_init_d00df_10 rfl (lv_at hl 0 rfl) ?_
  refine lv_iload_n hx hb dJ5_init_d00df_11 rfl (lv_at hl 1 rfl) ?_
  refine va_newa (atype := .byte) (ty := .byte) (N' := 16) (a0 := (16, .inl (fun _ => 0))) hx hb (hts _ mj_J5_init_d00df_ab) rfl hK hP hD hS hA (fun _ => rfl) (by decide) (by decide) (by decide) (Nat.le_of_ble_eq_true rfl) (by show _ + 16 ≤ 20; omega) dJ5_init_d00df_12 (fun q0 cA H hK9 hP hD hS => ?_)
  obtain rfl : cB = cA := my_one hK9 (i := 2) (j := 3) rfl rfl rfl
  have hP : va_P D vwCl [(a, .inr (1, [.null, .int 0, .int 0, .int 0])), (q0, .inl (cB, 16, .inl (fun _ => 0)))] H := hP
  have hD : va_D A [(a, .inr (1, [.null, .int 0, .int 0, .int 0])), (q0, .inl (cB, 16, .inl (fun _ => 0)))] := hD
  refine W.widen (k := 1) (n := 20) (by omega) (by omega) ?_
  refine va_put (D := D) (ci := 1) (v := .ref q0) (ty := .array .byte) (C := RJ4) (T := TJ4) (N := 4) hx hb hts mc_J5_init_d00df_J4 tyJ4 tyJ4_ok nmJ4 hown hK hP hD hS 0 rfl rfl 0 (by decide) (hts _ mj_J5_init_d00df_f15) (fun _ h9 => h9) rfl (tyJ4_ok 0 (by decide)) rfl rfl (Nat.le_of_ble_eq_true rfl) dJ5_init_d00df_14 (fun H locs hP hD hS => ?_)
  have hP : va_P D vwCl [(a, .inr (1, [.ref q0, .int 0, .int 0, .int 0])), (q0, .inl (cB, 16, .inl (fun _ => 0)))] H := hP
  have hD : va_D A [(a, .inr (1, [.ref q0, .int 0, .int 0, .int 0])), (q0, .inl (cB, 16, .inl (fun _ => 0)))] := hD
  refine lv_aload_n hx hb dJ5_init_d00df_17 rfl (lv_at hl 0 rfl) ?_
  refine lv_iconst (v := (0 : Int32)) hx hb dJ5_init_d00df_18 (by decide) ?_
  refine va_put (D := D) (ci := 1) (v := .int (0 : Int32)) (ty := .byte) (C := RJ4) (T := TJ4) (N := 4) hx hb hts mc_J5_init_d00df_J4 tyJ4 tyJ4_ok nmJ4 hown hK hP hD hS 0 rfl rfl 1 (by decide) (hts _ mj_J5_init_d00df_f22) (fun _ h9 => h9) rfl (tyJ4_ok 1 (by decide)) rfl rfl (Nat.le_of_ble_eq_true rfl) dJ5_init_d00df_19 (fun H locs hP hD hS => ?_)
  have hP : va_P D vwCl [(a, .inr (1, [.ref q0, .int (0 : Int32), .int 0, .int 0])), (q0, .inl (cB, 16, .inl (fun _ => 0)))] H := hP
  have hD : va_D A [(a, .inr (1, [.ref q0, .int (0 : Int32), .int 0, .int 0])), (q0, .inl (cB, 16, .inl (fun _ => 0)))] := hD
  refine lv_goto (tgt := 38) hx hb dJ5_init_d00df_22 (by decide) ?_
  refine W.widen (k := 1) (n := 20) (by omega) (by omega) ?_
  exact hfin 38 _ _ _ (fun k => ([q0] : List Nat).getD k 0) dJ5_init_d00df_38 hP hD hS
theorem mj_J4_init_da8c8_imJ5_init_d00df : Cond.instanceMethod yJ5_init_d00df ∈ wsJ4_init_da8c8 := by decide +kernel
theorem mj_J4_init_da8c8_itJ5 : Cond.initialized RJ5 ∈ wsJ4_init_da8c8 := by decide +kernel
theorem mj_J4_init_da8c8_mlJ5_init_d00df : Cond.methodLink RJ4 1 yJ5_init_d00df ∈ wsJ4_init_da8c8 := by decide +kernel
abbrev rm_J4_init_da8c8 : Room := { frames := 2, cells := 1, slots := 20, locals := 33 }
set_option maxHeartbeats 4000000 in
set_option maxRecDepth 100000 in
theorem j_J4_init_da8c8 (l : Launch) (D : va_G) (cI cD cB : ClassId) (a : Nat) : Ck l yJ4_init_da8c8 wsJ4_init_da8c8 rm_J4_init_da8c8 D (TT cI cD cB) [.ref a] [(a, .inr (1, [.null, .int 0, .int 0, .int 0]))] (fun u : Nat → Nat => [(a, .inr (1, [.ref (u 0), .int (0 : Int32), .int 0, .int 0])), (u 0, .inl (cB, 16, .inl (fun _ => 0)))]) 1 20 := by
  refine st_k (cc := cJ4_init_da8c8) (maxL := 1) (by decide) rfl (Nat.le_of_ble_eq_true rfl) (fun p e s m av below meth c A Q ls hx hb hml hts hown hin hA hK hNM hZ hP hD hS hl hfin => ?_)
  have hown : s.vm.findClass RJ4 = some m.cls := hown
  have hl : lv_has ls 1 [(0, .ref a)] := hl
  refine lv_aload_n hx hb dJ4_init_da8c8_0 rfl (lv_at hl 0 rfl) ?_
  refine lv_bipush (v := (16 : Int32)) hx hb dJ4_init_da8c8_1 (by decide) ?_
  refine co_k (W0 := [(a, .inr (1, [.null, .int 0, .int 0, .int 0]))]) (wr := []) (W1 := (fun u1 : Nat → Nat => [(a, .inr (1, [.ref (u1 0), .int (0 : Int32), .int 0, .int 0])), ((u1 0), .inl (cB, 16, .inl (fun _ => 0)))])) (ws2 := (fun u1 : Nat → Nat => [(a, .inr (1, [.ref (u1 0), .int (0 : Int32), .int 0, .int 0])), ((u1 0), .inl (cB, 16, .inl (fun _ => 0)))])) (va_runI (As := [.int (16 : Int32)]) (rest := []) ⟨hx, hb, hml, hown, hts⟩ (j_J5_init_d00df l D cI cD cB a _) (cwI 1 hts gJ4_init_da8c8_J5_init_d00df rfl rfl rfl (hts _ mj_J4_init_da8c8_itJ5) (hts _ mj_J4_init_da8c8_mlJ5_init_d00df) (hts _ mj_J4_init_da8c8_imJ5_init_d00df) rfl (by decide +kernel) ⟨Nat.le_of_ble_eq_true rfl, Nat.le_of_ble_eq_true rfl⟩) (my_preS [0] hP hK hNM hZ hD hS hA rfl rfl) rfl rfl hl.1 rfl (lv_room (Nat.le_of_ble_eq_true rfl)) dJ4_init_da8c8_3 ⟨Nat.le_of_ble_eq_true rfl, Nat.le_of_ble_eq_true rfl⟩) hP hD hS hA [0] [] [0, 1] rfl rfl (fun _ => rfl) rfl rfl (by decide) (fun u1 H locs hP hD hS => ?_)
  have hP : va_P D vwCl [(a, .inr (1, [.ref (u1 0), .int (0 : Int32), .int 0, .int 0])), ((u1 0), .inl (cB, 16, .inl (fun _ => 0)))] H := hP
  have hD : va_D A [(a, .inr (1, [.ref (u1 0), .int (0 : Int32), .int 0, .int 0])), ((u1 0), .inl (cB, 16, .inl (fun _ => 0)))] := hD
  refine W.widen (k := 1) (n := 20) (by omega) (by omega) ?_
  refine W.widen (k := 1) (n := 20) (by omega) (by omega) ?_
  exact hfin 6 _ _ _ (fun k => ([(u1 0)] : List Nat).getD k 0) dJ4_init_da8c8_6 hP hD hS
theorem mj_J0_coder_7d493_f15 : Cond.fieldLink RJ0 15 "java/lang/String" "coder" "B" ∈ wsJ0_coder_7d493 := by decide +kernel
theorem mj_J0_coder_7d493_f38 : Cond.fieldLink RJ0 38 "java/lang/String" "COMPACT_STRINGS" "Z" ∈ wsJ0_coder_7d493 := by decide +kernel
abbrev rm_J0_coder_7d493 : Room := { frames := 0, cells := 0, slots := 0, locals := 0 }
set_option maxHeartbeats 4000000 in
set_option maxRecDepth 100000 in
theorem j_J0_coder_7d493 (l : Launch) (D : va_G) (cI cD cB : ClassId) : Ci l yJ0_coder_7d493 wsJ0_coder_7d493 rm_J0_coder_7d493 D (TT cI cD cB) [.ref (D.2 kT 0)] [] [] (0 : Int32) 0 0 := by
  refine st_i (cc := cJ0_coder_7d493) (maxL := 1) (by decide) rfl (Nat.le_of_ble_eq_true rfl) (fun p e s m av below meth c A Q ls hx hb hml hts hown hA hK hNM hZ hP hD hS hl hfin => ?_)
  have hown : s.vm.findClass RJ0 = some m.cls := hown
  have hl : lv_has ls 1 [(0, .ref (D.2 kT 0))] := hl
  refine va_gets hx hb hZ.2.2.1 hS hown (hts _ mj_J0_coder_7d493_f38) (fun _ h9 => h9) dJ0_coder_7d493_0 ?_
  refine lv_if_eq (tgt := 13) hx hb dJ0_coder_7d493_3 (by decide) (fun q => absurd q (by decide)) (fun _ => ?_)
  refine lv_aload_n hx hb dJ0_coder_7d493_6 rfl (lv_at hl 0 rfl) ?_
  refine vk_getf hx hb (hZ.2.2.2.1 0 (by decide)).2.1 hS hown (hts _ mj_J0_coder_7d493_f15) (fun _ h9 => h9) dJ0_coder_7d493_7 ?_
  refine lv_goto (tgt := 14) hx hb dJ0_coder_7d493_10 (by decide) ?_
  exact hfin 14 _ _ _ dJ0_coder_7d493_14 rfl hP hD hS
theorem mj_J0_length_8abf5_f9 : Cond.fieldLink RJ0 9 "java/lang/String" "value" "[B" ∈ wsJ0_length_8abf5 := by decide +kernel
abbrev rm_J0_length_8abf5 : Room := { frames := 1, cells := 0, slots := 0, locals := 20 }
set_option maxHeartbeats 4000000 in
set_option maxRecDepth 100000 in
theorem j_J0_length_8abf5 (l : Launch) (D : va_G) (cI cD cB : ClassId) : Ci l yJ0_length_8abf5 wsJ0_length_8abf5 rm_J0_length_8abf5 D (TT cI cD cB) [.ref (D.2 kT 0)] [] [] (1 : Int32) 0 0 := by
  refine st_i (cc := cJ0_length_8abf5) (maxL := 1) (by decide) rfl (Nat.le_of_ble_eq_true rfl) (fun p e s m av below meth c A Q ls hx hb hml hts hown hA hK hNM hZ hP hD hS hl hfin => ?_)
  have hown : s.vm.findClass RJ0 = some m.cls := hown
  have hl : lv_has ls 1 [(0, .ref (D.2 kT 0))] := hl
  refine lv_aload_n hx hb dJ0_length_8abf5_0 rfl (lv_at hl 0 rfl) ?_
  refine vk_getf hx hb (hZ.2.2.2.1 0 (by decide)).2.2.1 hS hown (hts _ mj_J0_length_8abf5_f9) (fun _ h9 => h9) dJ0_length_8abf5_1 ?_
  refine va_tlen hx hb (hZ.2.2.2.1 0 (by decide)).2.2.2 hS (v := (1 : Int32)) (by decide) dJ0_length_8abf5_4 ?_
  refine lv_aload_n hx hb dJ0_length_8abf5_5 rfl (lv_at hl 0 rfl) ?_
  refine co_i (W0 := []) (wr := []) (W1 := []) (ws2 := []) (va_runV (C := RJ0) (As := []) (rest := [.int (1 : Int32)]) ⟨hx, hb, hml, hown, hts⟩ (j_J0_coder_7d493 l D cI cD cB _) (cwV 0 hts gJ0_length_8abf5_J0_coder_7d493 rfl rfl rfl (by decide +kernel) ⟨Nat.le_of_ble_eq_true rfl, Nat.le_of_ble_eq_true rfl⟩) (my_preK [] hP hK hNM hZ hD hS hA rfl rfl) rfl rfl hl.1 rfl (lv_room (Nat.le_of_ble_eq_true rfl)) dJ0_length_8abf5_6 ⟨Nat.le_of_ble_eq_true rfl, Nat.le_of_ble_eq_true rfl⟩) hP hD hS hA [] [] [] rfl rfl rfl rfl rfl (by decide) (fun H locs hP hD hS => ?_)
  have hP : va_P D vwCl [] H := hP
  have hD : va_D A [] := hD
  refine lv_ishr hx hb dJ0_length_8abf5_9 ?_
  rw [sb_shr0]
  exact hfin 10 _ _ _ dJ0_length_8abf5_10 rfl hP hD hS
theorem mc_J5_inflateIfNeededFor_a7421_J4 : ∀ w ∈ wsJ40, w ∈ wsJ5_inflateIfNeededFor_a7421 := by decide +kernel
theorem mj_J5_inflateIfNeededFor_a7421_f18 : Cond.fieldLink RJ5 18 "java/lang/String" "COMPACT_STRINGS" "Z" ∈ wsJ5_inflateIfNeededFor_a7421 := by decide +kernel
theorem mj_J5_inflateIfNeededFor_a7421_f22 : Cond.fieldLink RJ5 22 "java/lang/AbstractStringBuilder" "coder" "B" ∈ wsJ5_inflateIfNeededFor_a7421 := by decide +kernel
abbrev rm_J5_inflateIfNeededFor_a7421 : Room := { frames := 1, cells := 0, slots := 0, locals := 20 }
set_option maxHeartbeats 4000000 in
set_option maxRecDepth 100000 in
theorem j_J5_inflateIfNeededFor_a7421 (l : Launch) (D : va_G) (cI cD cB : ClassId) (a : Nat) (v : Nat) (ml : Int32) (n : Int32) : Cv l yJ5_inflateIfNeededFor_a7421 wsJ5_inflateIfNeededFor_a7421 rm_J5_inflateIfNeededFor_a7421 D (TT cI cD cB) [.ref a, .ref (D.2 kT 0)] [(a, .inr (1, [.ref v, .int (0 : Int32), .int ml, .int n]))] [(a, .inr (1, [.ref v, .int (0 : Int32), .int ml, .int n]))] 0 0 := by
  refine st_v (cc := cJ5_inflateIfNeededFor_a7421) (maxL := 2) (by decide) rfl (Nat.le_of_ble_eq_true rfl) (fun p e s m av below meth c A Q ls hx hb hml hts hown hA hK hNM hZ hP hD hS hl hfin => ?_)
  have hown : s.vm.findClass RJ5 = some m.cls := hown
  have hl : lv_has ls 2 [(0, .ref a), (1, .ref (D.2 kT 0))] := hl
  refine va_gets hx hb hZ.2.2.1 hS hown (hts _ mj_J5_inflateIfNeededFor_a7421_f18) (fun _ h9 => h9) dJ5_inflateIfNeededFor_a7421_0 ?_
  refine lv_if_eq (tgt := 21) hx hb dJ5_inflateIfNeededFor_a7421_3 (by decide) (fun q => absurd q (by decide)) (fun _ => ?_)
  refine lv_aload_n hx hb dJ5_inflateIfNeededFor_a7421_6 rfl (lv_at hl 0 rfl) ?_
  refine va_get (D := D) (ci := 1) (v := .int (0 : Int32)) (C := RJ4) (T := TJ4) (N := 4) hx hb hts mc_J5_inflateIfNeededFor_a7421_J4 hown hK hP 0 rfl rfl 1 (by decide) (hts _ mj_J5_inflateIfNeededFor_a7421_f22) (fun _ h9 => h9) rfl dJ5_inflateIfNeededFor_a7421_7 ?_
  refine lv_aload_n hx hb dJ5_inflateIfNeededFor_a7421_10 rfl (lv_at hl 1 rfl) ?_
  refine co_i (W0 := []) (wr := [(a, .inr (1, [.ref v, .int (0 : Int32), .int ml, .int n]))]) (W1 := []) (ws2 := [(a, .inr (1, [.ref v, .int (0 : Int32), .int ml, .int n]))]) (va_runV (C := RJ0) (As := []) (rest := [.int (0 : Int32)]) ⟨hx, hb, hml, hown, hts⟩ (j_J0_coder_7d493 l D cI cD cB _) (cwV 0 hts gJ5_inflateIfNeededFor_a7421_J0_coder_7d493 rfl rfl rfl (by decide +kernel) ⟨Nat.le_of_ble_eq_true rfl, Nat.le_of_ble_eq_true rfl⟩) (my_preK [] hP hK hNM hZ hD hS hA rfl rfl) rfl rfl hl.1 rfl (lv_room (Nat.le_of_ble_eq_true rfl)) dJ5_inflateIfNeededFor_a7421_11 ⟨Nat.le_of_ble_eq_true rfl, Nat.le_of_ble_eq_true rfl⟩) hP hD hS hA [] [0] [0] rfl rfl rfl rfl rfl (by decide) (fun H locs hP hD hS => ?_)
  have hP : va_P D vwCl [(a, .inr (1, [.ref v, .int (0 : Int32), .int ml, .int n]))] H := hP
  have hD : va_D A [(a, .inr (1, [.ref v, .int (0 : Int32), .int ml, .int n]))] := hD
  refine lv_icmp_eq (tgt := 21) hx hb dJ5_inflateIfNeededFor_a7421_14 (by decide) (fun _ => ?_) (fun q => absurd q (by decide))
  exact hfin 21 _ _ _ dJ5_inflateIfNeededFor_a7421_21 hP hD hS
theorem mj_J0_getBytes_840e7_aci : Cond.initialized "java/lang/System" ∈ wsJ0_getBytes_840e7 := by decide +kernel
theorem mj_J0_getBytes_840e7_acl : Cond.methodLink RJ0 212 arraycopyName ∈ wsJ0_getBytes_840e7 := by decide +kernel
theorem mj_J0_getBytes_840e7_acn : Cond.native arraycopyName ∈ wsJ0_getBytes_840e7 := by decide +kernel
theorem mj_J0_getBytes_840e7_acs : Cond.static arraycopyName ∈ wsJ0_getBytes_840e7 := by decide +kernel
theorem mj_J0_getBytes_840e7_f9 : Cond.fieldLink RJ0 9 "java/lang/String" "value" "[B" ∈ wsJ0_getBytes_840e7 := by decide +kernel
abbrev rm_J0_getBytes_840e7 : Room := { frames := 1, cells := 0, slots := 0, locals := 60 }
set_option maxHeartbeats 4000000 in
set_option maxRecDepth 100000 in
theorem j_J0_getBytes_840e7 (l : Launch) (D : va_G) (cI cD cB : ClassId) (v : Nat) (g : Nat → Int32) : Cv l yJ0_getBytes_840e7 wsJ0_getBytes_840e7 rm_J0_getBytes_840e7 D (TT cI cD cB) [.ref (D.2 kT 0), .ref v, .int (0 : Int32), .int (0 : Int32)] [(v, .inl (cB, 17, .inl g))] [(v, .inl (cB, 17, .inl (va_cpy (fun j => (([[84]] : List (List Int32)).getD 0 []).getD j 0) g ((0 : Int32)).toNatClampNeg ((0 : Int32)).toNatClampNeg ((1 : Int32)).toNatClampNeg)))] 0 0 := by
  refine st_v (cc := cJ0_getBytes_840e7) (maxL := 4) (by decide) rfl (Nat.le_of_ble_eq_true rfl) (fun p e s m av below meth c A Q ls hx hb hml hts hown hA hK hNM hZ hP hD hS hl hfin => ?_)
  have hown : s.vm.findClass RJ0 = some m.cls := hown
  have hl : lv_has ls 4 [(0, .ref (D.2 kT 0)), (1, .ref v), (2, .int (0 : Int32)), (3, .int (0 : Int32))] := hl
  refine lv_aload_n hx hb dJ0_getBytes_840e7_0 rfl (lv_at hl 0 rfl) ?_
  refine co_i (W0 := []) (wr := [(v, .inl (cB, 17, .inl g))]) (W1 := []) (ws2 := [(v, .inl (cB, 17, .inl g))]) (va_runV (C := RJ0) (As := []) (rest := []) ⟨hx, hb, hml, hown, hts⟩ (j_J0_coder_7d493 l D cI cD cB _) (cwV 0 hts gJ0_getBytes_840e7_J0_coder_7d493 rfl rfl rfl (by decide +kernel) ⟨Nat.le_of_ble_eq_true rfl, Nat.le_of_ble_eq_true rfl⟩) (my_preK [] hP hK hNM hZ hD hS hA rfl rfl) rfl rfl hl.1 rfl (lv_room (Nat.le_of_ble_eq_true rfl)) dJ0_getBytes_840e7_1 ⟨Nat.le_of_ble_eq_true rfl, Nat.le_of_ble_eq_true rfl⟩) hP hD hS hA [] [0] [0] rfl rfl rfl rfl rfl (by decide) (fun H locs hP hD hS => ?_)
  have hP : va_P D vwCl [(v, .inl (cB, 17, .inl g))] H := hP
  have hD : va_D A [(v, .inl (cB, 17, .inl g))] := hD
  refine lv_iload_n hx hb dJ0_getBytes_840e7_4 rfl (lv_at hl 3 rfl) ?_
  refine lv_icmp_ne (tgt := 28) hx hb dJ0_getBytes_840e7_5 (by decide) (fun q => absurd q (by decide)) (fun _ => ?_)
  refine lv_aload_n hx hb dJ0_getBytes_840e7_8 rfl (lv_at hl 0 rfl) ?_
  refine vk_getf hx hb (hZ.2.2.2.1 0 (by decide)).2.2.1 hS hown (hts _ mj_J0_getBytes_840e7_f9) (fun _ h9 => h9) dJ0_getBytes_840e7_9 ?_
  refine lv_iconst (v := (0 : Int32)) hx hb dJ0_getBytes_840e7_12 (by decide) ?_
  refine lv_aload_n hx hb dJ0_getBytes_840e7_13 rfl (lv_at hl 1 rfl) ?_
  refine lv_iload_n hx hb dJ0_getBytes_840e7_14 rfl (lv_at hl 2 rfl) ?_
  refine lv_iload_n hx hb dJ0_getBytes_840e7_15 rfl (lv_at hl 3 rfl) ?_
  refine lv_ishl hx hb dJ0_getBytes_840e7_16 ?_
  rw [sb_shl0]
  refine lv_aload_n hx hb dJ0_getBytes_840e7_17 rfl (lv_at hl 0 rfl) ?_
  refine vk_getf hx hb (hZ.2.2.2.1 0 (by decide)).2.2.1 hS hown (hts _ mj_J0_getBytes_840e7_f9) (fun _ h9 => h9) dJ0_getBytes_840e7_18 ?_
  refine va_tlen hx hb (hZ.2.2.2.1 0 (by decide)).2.2.2 hS (v := (1 : Int32)) (by decide) dJ0_getBytes_840e7_21 ?_
  refine vk_copyt hx hb (hml.trans hl.1.symm) hown (hts _ mj_J0_getBytes_840e7_acl) (hts _ mj_J0_getBytes_840e7_acn) (hts _ mj_J0_getBytes_840e7_acs) (hts _ mj_J0_getBytes_840e7_aci) hK hP hD hS (f := (fun j => (([[84]] : List (List Int32)).getD 0 []).getD j 0)) (hZ.2.2.2.1 0 (by decide)).2.2.2 0 2 rfl rfl (by decide) (by decide) (by decide) (by decide) (by decide) (fun i hi => by obtain rfl : i = 0 := (by have h9 : i < 1 := hi; omega); rfl) (Nat.le_of_ble_eq_true rfl) (Nat.le_of_ble_eq_true rfl) dJ0_getBytes_840e7_22 (fun H locs hP hD hS => ?_)
  have hP : va_P D vwCl [(v, .inl (cB, 17, .inl (va_cpy (fun j => (([[84]] : List (List Int32)).getD 0 []).getD j 0) g ((0 : Int32)).toNatClampNeg ((0 : Int32)).toNatClampNeg ((1 : Int32)).toNatClampNeg)))] H := hP
  have hD : va_D A [(v, .inl (cB, 17, .inl (va_cpy (fun j => (([[84]] : List (List Int32)).getD 0 []).getD j 0) g ((0 : Int32)).toNatClampNeg ((0 : Int32)).toNatClampNeg ((1 : Int32)).toNatClampNeg)))] := hD
  refine lv_goto (tgt := 43) hx hb dJ0_getBytes_840e7_25 (by decide) ?_
  exact hfin 43 _ _ _ dJ0_getBytes_840e7_43 hP hD hS
theorem mc_J5_putStringAt_47b60_J4 : ∀ w ∈ wsJ40, w ∈ wsJ5_putStringAt_47b60 := by decide +kernel
theorem mj_J5_putStringAt_47b60_f15 : Cond.fieldLink RJ5 15 "java/lang/AbstractStringBuilder" "value" "[B" ∈ wsJ5_putStringAt_47b60 := by decide +kernel
theorem mj_J5_putStringAt_47b60_f22 : Cond.fieldLink RJ5 22 "java/lang/AbstractStringBuilder" "coder" "B" ∈ wsJ5_putStringAt_47b60 := by decide +kernel
abbrev rm_J5_putStringAt_47b60 : Room := { frames := 2, cells := 0, slots := 0, locals := 83 }
set_option maxHeartbeats 4000000 in
set_option maxRecDepth 100000 in
theorem j_J5_putStringAt_47b60 (l : Launch) (D : va_G) (cI cD cB : ClassId) (a : Nat) (v : Nat) (ml : Int32) (g : Nat → Int32) : Cv l yJ5_putStringAt_47b60 wsJ5_putStringAt_47b60 rm_J5_putStringAt_47b60 D (TT cI cD cB) [.ref a, .int (0 : Int32), .ref (D.2 kT 0)] [(a, .inr (1, [.ref v, .int (0 : Int32), .int ml, .int (0 : Int32)])), (v, .inl (cB, 17, .inl g))] [(a, .inr (1, [.ref v, .int (0 : Int32), .int ml, .int (0 : Int32)])), (v, .inl (cB, 17, .inl (va_cpy (fun j => (([[84]] : List (List Int32)).getD 0 []).getD j 0) g ((0 : Int32)).toNatClampNeg ((0 : Int32)).toNatClampNeg ((1 : Int32)).toNatClampNeg)))] 0 0 := by
  refine st_v (cc := cJ5_putStringAt_47b60) (maxL := 3) (by decide) rfl (Nat.le_of_ble_eq_true rfl) (fun p e s m av below meth c A Q ls hx hb hml hts hown hA hK hNM hZ hP hD hS hl hfin => ?_)
  have hown : s.vm.findClass RJ5 = some m.cls := hown
  have hl : lv_has ls 3 [(0, .ref a), (1, .int (0 : Int32)), (2, .ref (D.2 kT 0))] := hl
  refine lv_aload_n hx hb dJ5_putStringAt_47b60_0 rfl (lv_at hl 0 rfl) ?_
  refine lv_aload_n hx hb dJ5_putStringAt_47b60_1 rfl (lv_at hl 2 rfl) ?_
  refine co_v (W0 := [(a, .inr (1, [.ref v, .int (0 : Int32), .int ml, .int (0 : Int32)]))]) (wr := [(v, .inl (cB, 17, .inl g))]) (W1 := [(a, .inr (1, [.ref v, .int (0 : Int32), .int ml, .int (0 : Int32)]))]) (ws2 := [(a, .inr (1, [.ref v, .int (0 : Int32), .int ml, .int (0 : Int32)])), (v, .inl (cB, 17, .inl g))]) (va_runU (C := RJ4) (As := [.ref (D.2 kT 0)]) (rest := []) ⟨hx, hb, hml, hown, hts⟩ (j_J5_inflateIfNeededFor_a7421 l D cI cD cB a v ml (0 : Int32) _) (va_cwU 1 hts gJ5_putStringAt_47b60_J5_inflateIfNeededFor_a7421_u397J4 rfl rfl rfl rfl ⟨by decide, by decide, by decide +kernel⟩ ⟨Nat.le_of_ble_eq_true rfl, Nat.le_of_ble_eq_true rfl⟩) (my_preV (q := (RJ4, TJ4, 4)) (ci := 1) (q0 := 0) [0] hP hK hNM hZ hD hS hA rfl rfl rfl rfl) rfl rfl hl.1 rfl (lv_room (Nat.le_of_ble_eq_true rfl)) dJ5_putStringAt_47b60_2 ⟨Nat.le_of_ble_eq_true rfl, Nat.le_of_ble_eq_true rfl⟩) hP hD hS hA [0] [1] [1, 0] rfl rfl rfl rfl rfl (by decide) (fun H locs hP hD hS => ?_)
  have hP : va_P D vwCl [(a, .inr (1, [.ref v, .int (0 : Int32), .int ml, .int (0 : Int32)])), (v, .inl (cB, 17, .inl g))] H := hP
  have hD : va_D A [(a, .inr (1, [.ref v, .int (0 : Int32), .int ml, .int (0 : Int32)])), (v, .inl (cB, 17, .inl g))] := hD
  refine lv_aload_n hx hb dJ5_putStringAt_47b60_5 rfl (lv_at hl 2 rfl) ?_
  refine lv_aload_n hx hb dJ5_putStringAt_47b60_6 rfl (lv_at hl 0 rfl) ?_
  refine va_get (D := D) (ci := 1) (v := .ref v) (C := RJ4) (T := TJ4) (N := 4) hx hb hts mc_J5_putStringAt_47b60_J4 hown hK hP 0 rfl rfl 0 (by decide) (hts _ mj_J5_putStringAt_47b60_f15) (fun _ h9 => h9) rfl dJ5_putStringAt_47b60_7 ?_
  refine lv_iload_n hx hb dJ5_putStringAt_47b60_10 rfl (lv_at hl 1 rfl) ?_
  refine lv_aload_n hx hb dJ5_putStringAt_47b60_11 rfl (lv_at hl 0 rfl) ?_
  refine va_get (D := D) (ci := 1) (v := .int (0 : Int32)) (C := RJ4) (T := TJ4) (N := 4) hx hb hts mc_J5_putStringAt_47b60_J4 hown hK hP 0 rfl rfl 1 (by decide) (hts _ mj_J5_putStringAt_47b60_f22) (fun _ h9 => h9) rfl dJ5_putStringAt_47b60_12 ?_
  refine co_v (W0 := [(v, .inl (cB, 17, .inl g))]) (wr := [(a, .inr (1, [.ref v, .int (0 : Int32), .int ml, .int (0 : Int32)]))]) (W1 := [(v, .inl (cB, 17, .inl (va_cpy (fun j => (([[84]] : List (List Int32)).getD 0 []).getD j 0) g ((0 : Int32)).toNatClampNeg ((0 : Int32)).toNatClampNeg ((1 : Int32)).toNatClampNeg)))]) (ws2 := [(a, .inr (1, [.ref v, .int (0 : Int32), .int ml, .int (0 : Int32)])), (v, .inl (cB, 17, .inl (va_cpy (fun j => (([[84]] : List (List Int32)).getD 0 []).getD j 0) g ((0 : Int32)).toNatClampNeg ((0 : Int32)).toNatClampNeg ((1 : Int32)).toNatClampNeg)))]) (va_runV (C := RJ0) (As := [.ref v, .int (0 : Int32), .int (0 : Int32)]) (rest := []) ⟨hx, hb, hml, hown, hts⟩ (j_J0_getBytes_840e7 l D cI cD cB v g _) (cwV 3 hts gJ5_putStringAt_47b60_J0_getBytes_840e7 rfl rfl rfl (by decide +kernel) ⟨Nat.le_of_ble_eq_true rfl, Nat.le_of_ble_eq_true rfl⟩) (my_preK [1] hP hK hNM hZ hD hS hA rfl rfl) rfl rfl hl.1 rfl (lv_room (Nat.le_of_ble_eq_true rfl)) dJ5_putStringAt_47b60_15 ⟨Nat.le_of_ble_eq_true rfl, Nat.le_of_ble_eq_true rfl⟩) hP hD hS hA [1] [0] [0, 1] rfl rfl rfl rfl rfl (by decide) (fun H locs hP hD hS => ?_)
  have hP : va_P D vwCl [(a, .inr (1, [.ref v, .int (0 : Int32), .int ml, .int (0 : Int32)])), (v, .inl (cB, 17, .inl (va_cpy (fun j => (([[84]] : List (List Int32)).getD 0 []).getD j 0) g ((0 : Int32)).toNatClampNeg ((0 : Int32)).toNatClampNeg ((1 : Int32)).toNatClampNeg)))] H := hP
  have hD : va_D A [(a, .inr (1, [.ref v, .int (0 : Int32), .int ml, .int (0 : Int32)])), (v, .inl (cB, 17, .inl (va_cpy (fun j => (([[84]] : List (List Int32)).getD 0 []).getD j 0) g ((0 : Int32)).toNatClampNeg ((0 : Int32)).toNatClampNeg ((1 : Int32)).toNatClampNeg)))] := hD
  exact hfin 18 _ _ _ dJ5_putStringAt_47b60_18 hP hD hS
theorem mc_J5_append_cf1ce_J4 : ∀ w ∈ wsJ40, w ∈ wsJ5_append_cf1ce := by decide +kernel
theorem mj_J5_append_cf1ce_f79 : Cond.fieldLink RJ5 79 "java/lang/AbstractStringBuilder" "count" "I" ∈ wsJ5_append_cf1ce := by decide +kernel
abbrev rm_J5_append_cf1ce : Room := { frames := 3, cells := 0, slots := 0, locals := 105 }
set_option maxHeartbeats 4000000 in
set_option maxRecDepth 100000 in
theorem j_J5_append_cf1ce (l : Launch) (D : va_G) (cI cD cB : ClassId) (a : Nat) (v : Nat) (ml : Int32) (g : Nat → Int32) : Cg l yJ5_append_cf1ce wsJ5_append_cf1ce rm_J5_append_cf1ce D (TT cI cD cB) [.ref a, .ref (D.2 kT 0)] [(a, .inr (1, [.ref v, .int (0 : Int32), .int ml, .int (0 : Int32)])), (v, .inl (cB, 17, .inl g))] (fun u : Nat → Nat => a) (fun u : Nat → Nat => [(a, .inr (1, [.ref v, .int (0 : Int32), .int ml, .int ((0 : Int32) + (1 : Int32))])), (v, .inl (cB, 17, .inl (va_cpy (fun j => (([[84]] : List (List Int32)).getD 0 []).getD j 0) g ((0 : Int32)).toNatClampNeg ((0 : Int32)).toNatClampNeg ((1 : Int32)).toNatClampNeg)))]) 0 0 := by
  refine st_g (Or.inl ⟨_, rfl⟩) (cc := cJ5_append_cf1ce) (maxL := 3) (by decide) rfl (Nat.le_of_ble_eq_true rfl) (fun p e s m av below meth c A Q ls hx hb hml hts hown hin hA hK hNM hZ hP hD hS hl hfin => ?_)
  have hown : s.vm.findClass RJ5 = some m.cls := hown
  have hl : lv_has ls 3 [(0, .ref a), (1, .ref (D.2 kT 0))] := hl
  refine lv_aload_n hx hb dJ5_append_cf1ce_0 rfl (lv_at hl 1 rfl) ?_
  refine lv_ifnonnull (tgt := 9) hx hb dJ5_append_cf1ce_1 (by decide) ?_
  refine lv_aload_n hx hb dJ5_append_cf1ce_9 rfl (lv_at hl 1 rfl) ?_
  refine co_i (W0 := []) (wr := [(a, .inr (1, [.ref v, .int (0 : Int32), .int ml, .int (0 : Int32)])), (v, .inl (cB, 17, .inl g))]) (W1 := []) (ws2 := [(a, .inr (1, [.ref v, .int (0 : Int32), .int ml, .int (0 : Int32)])), (v, .inl (cB, 17, .inl g))]) (va_runV (C := RJ0) (As := []) (rest := []) ⟨hx, hb, hml, hown, hts⟩ (j_J0_length_8abf5 l D cI cD cB _) (cwV 0 hts gJ5_append_cf1ce_J0_length_8abf5 rfl rfl rfl (by decide +kernel) ⟨Nat.le_of_ble_eq_true rfl, Nat.le_of_ble_eq_true rfl⟩) (my_preK [] hP hK hNM hZ hD hS hA rfl rfl) rfl rfl hl.1 rfl (lv_room (Nat.le_of_ble_eq_true rfl)) dJ5_append_cf1ce_10 ⟨Nat.le_of_ble_eq_true rfl, Nat.le_of_ble_eq_true rfl⟩) hP hD hS hA [] [0, 1] [0, 1] rfl rfl rfl rfl rfl (by decide) (fun H locs hP hD hS => ?_)
  have hP : va_P D vwCl [(a, .inr (1, [.ref v, .int (0 : Int32), .int ml, .int (0 : Int32)])), (v, .inl (cB, 17, .inl g))] H := hP
  have hD : va_D A [(a, .inr (1, [.ref v, .int (0 : Int32), .int ml, .int (0 : Int32)])), (v, .inl (cB, 17, .inl g))] := hD
  refine lv_istore_n (lv' := [(2, .int (1 : Int32)), (0, .ref a), (1, .ref (D.2 kT 0))]) hx hb dJ5_append_cf1ce_13 rfl hl (by decide) rfl (fun ls hl => ?_)
  refine lv_aload_n hx hb dJ5_append_cf1ce_14 rfl (lv_at hl 1 rfl) ?_
  refine lv_aload_n hx hb dJ5_append_cf1ce_15 rfl (lv_at hl 1 rfl) ?_
  refine va_get (D := D) (ci := 1) (v := .int (0 : Int32)) (C := RJ4) (T := TJ4) (N := 4) hx hb hts mc_J5_append_cf1ce_J4 hown hK hP 0 rfl rfl 3 (by decide) (hts _ mj_J5_append_cf1ce_f79) (fun _ h9 => h9) rfl dJ5_append_cf1ce_16 ?_
  refine lv_iload_n hx hb dJ5_append_cf1ce_19 rfl (lv_at hl 0 rfl) ?_
  refine lv_iadd hx hb dJ5_append_cf1ce_20 ?_
  refine co_v (W0 := [(a, .inr (1, [.ref v, .int (0 : Int32), .int ml, .int (0 : Int32)])), (v, .inl (cB, 17, .inl g))]) (wr := []) (W1 := [(a, .inr (1, [.ref v, .int (0 : Int32), .int ml, .int (0 : Int32)])), (v, .inl (cB, 17, .inl g))]) (ws2 := [(a, .inr (1, [.ref v, .int (0 : Int32), .int ml, .int (0 : Int32)])), (v, .inl (cB, 17, .inl g))]) (va_runU (C := RJ4) (As := [.int ((0 : Int32) + (1 : Int32))]) (rest := []) ⟨hx, hb, hml, hown, hts⟩ (j_J5_ensureCapacityInternal_d00df l D cI cD cB a v ml (0 : Int32) 17 g ((0 : Int32) + (1 : Int32)) (by decide) _) (va_cwU 1 hts gJ5_append_cf1ce_J5_ensureCapacityInternal_d00df_u100J4 rfl rfl rfl rfl ⟨by decide, by decide, by decide +kernel⟩ ⟨Nat.le_of_ble_eq_true rfl, Nat.le_of_ble_eq_true rfl⟩) (my_preV (q := (RJ4, TJ4, 4)) (ci := 1) (q0 := 0) [0, 1] hP hK hNM hZ hD hS hA rfl rfl rfl rfl) rfl rfl hl.1 rfl (lv_room (Nat.le_of_ble_eq_true rfl)) dJ5_append_cf1ce_21 ⟨Nat.le_of_ble_eq_true rfl, Nat.le_of_ble_eq_true rfl⟩) hP hD hS hA [0, 1] [] [0, 1] rfl rfl rfl rfl rfl (by decide) (fun H locs hP hD hS => ?_)
  have hP : va_P D vwCl [(a, .inr (1, [.ref v, .int (0 : Int32), .int ml, .int (0 : Int32)])), (v, .inl (cB, 17, .inl g))] H := hP
  have hD : va_D A [(a, .inr (1, [.ref v, .int (0 : Int32), .int ml, .int (0 : Int32)])), (v, .inl (cB, 17, .inl g))] := hD
  refine lv_aload_n hx hb dJ5_append_cf1ce_24 rfl (lv_at hl 1 rfl) ?_
  refine lv_aload_n hx hb dJ5_append_cf1ce_25 rfl (lv_at hl 1 rfl) ?_
  refine va_get (D := D) (ci := 1) (v := .int (0 : Int32)) (C := RJ4) (T := TJ4) (N := 4) hx hb hts mc_J5_append_cf1ce_J4 hown hK hP 0 rfl rfl 3 (by decide) (hts _ mj_J5_append_cf1ce_f79) (fun _ h9 => h9) rfl dJ5_append_cf1ce_26 ?_
  refine lv_aload_n hx hb dJ5_append_cf1ce_29 rfl (lv_at hl 2 rfl) ?_
  refine co_v (W0 := [(a, .inr (1, [.ref v, .int (0 : Int32), .int ml, .int (0 : Int32)])), (v, .inl (cB, 17, .inl g))]) (wr := []) (W1 := [(a, .inr (1, [.ref v, .int (0 : Int32), .int ml, .int (0 : Int32)])), (v, .inl (cB, 17, .inl (va_cpy (fun j => (([[84]] : List (List Int32)).getD 0 []).getD j 0) g ((0 : Int32)).toNatClampNeg ((0 : Int32)).toNatClampNeg ((1 : Int32)).toNatClampNeg)))]) (ws2 := [(a, .inr (1, [.ref v, .int (0 : Int32), .int ml, .int (0 : Int32)])), (v, .inl (cB, 17, .inl (va_cpy (fun j => (([[84]] : List (List Int32)).getD 0 []).getD j 0) g ((0 : Int32)).toNatClampNeg ((0 : Int32)).toNatClampNeg ((1 : Int32)).toNatClampNeg)))]) (va_runU (C := RJ4) (As := [.int (0 : Int32), .ref (D.2 kT 0)]) (rest := []) ⟨hx, hb, hml, hown, hts⟩ (j_J5_putStringAt_47b60 l D cI cD cB a v ml g _) (va_cwU 2 hts gJ5_append_cf1ce_J5_putStringAt_47b60_u208J4 rfl rfl rfl rfl ⟨by decide, by decide, by decide +kernel⟩ ⟨Nat.le_of_ble_eq_true rfl, Nat.le_of_ble_eq_true rfl⟩) (my_preV (q := (RJ4, TJ4, 4)) (ci := 1) (q0 := 0) [0, 1] hP hK hNM hZ hD hS hA rfl rfl rfl rfl) rfl rfl hl.1 rfl (lv_room (Nat.le_of_ble_eq_true rfl)) dJ5_append_cf1ce_30 ⟨Nat.le_of_ble_eq_true rfl, Nat.le_of_ble_eq_true rfl⟩) hP hD hS hA [0, 1] [] [0, 1] rfl rfl rfl rfl rfl (by decide) (fun H locs hP hD hS => ?_)
  have hP : va_P D vwCl [(a, .inr (1, [.ref v, .int (0 : Int32), .int ml, .int (0 : Int32)])), (v, .inl (cB, 17, .inl (va_cpy (fun j => (([[84]] : List (List Int32)).getD 0 []).getD j 0) g ((0 : Int32)).toNatClampNeg ((0 : Int32)).toNatClampNeg ((1 : Int32)).toNatClampNeg)))] H := hP
  have hD : va_D A [(a, .inr (1, [.ref v, .int (0 : Int32), .int ml, .int (0 : Int32)])), (v, .inl (cB, 17, .inl (va_cpy (fun j => (([[84]] : List (List Int32)).getD 0 []).getD j 0) g ((0 : Int32)).toNatClampNeg ((0 : Int32)).toNatClampNeg ((1 : Int32)).toNatClampNeg)))] := hD
  refine lv_aload_n hx hb dJ5_append_cf1ce_33 rfl (lv_at hl 1 rfl) ?_
  refine lv_dup hx hb dJ5_append_cf1ce_34 rfl ?_
  refine va_get (D := D) (ci := 1) (v := .int (0 : Int32)) (C := RJ4) (T := TJ4) (N := 4) hx hb hts mc_J5_append_cf1ce_J4 hown hK hP 0 rfl rfl 3 (by decide) (hts _ mj_J5_append_cf1ce_f79) (fun _ h9 => h9) rfl dJ5_append_cf1ce_35 ?_
  refine lv_iload_n hx hb dJ5_append_cf1ce_38 rfl (lv_at hl 0 rfl) ?_
  refine lv_iadd hx hb dJ5_append_cf1ce_39 ?_
  refine va_put (D := D) (ci := 1) (v := .int ((0 : Int32) + (1 : Int32))) (ty := .int) (C := RJ4) (T := TJ4) (N := 4) hx hb hts mc_J5_append_cf1ce_J4 tyJ4 tyJ4_ok nmJ4 hown hK hP hD hS 0 rfl rfl 3 (by decide) (hts _ mj_J5_append_cf1ce_f79) (fun _ h9 => h9) rfl (tyJ4_ok 3 (by decide)) rfl rfl (Nat.le_of_ble_eq_true rfl) dJ5_append_cf1ce_40 (fun H locs hP hD hS => ?_)
  have hP : va_P D vwCl [(a, .inr (1, [.ref v, .int (0 : Int32), .int ml, .int ((0 : Int32) + (1 : Int32))])), (v, .inl (cB, 17, .inl (va_cpy (fun j => (([[84]] : List (List Int32)).getD 0 []).getD j 0) g ((0 : Int32)).toNatClampNeg ((0 : Int32)).toNatClampNeg ((1 : Int32)).toNatClampNeg)))] H := hP
  have hD : va_D A [(a, .inr (1, [.ref v, .int (0 : Int32), .int ml, .int ((0 : Int32) + (1 : Int32))])), (v, .inl (cB, 17, .inl (va_cpy (fun j => (([[84]] : List (List Int32)).getD 0 []).getD j 0) g ((0 : Int32)).toNatClampNeg ((0 : Int32)).toNatClampNeg ((1 : Int32)).toNatClampNeg)))] := hD
  refine lv_aload_n hx hb dJ5_append_cf1ce_43 rfl (lv_at hl 1 rfl) ?_
  exact hfin 44 _ _ _ (fun k => ([] : List Nat).getD k 0) dJ5_append_cf1ce_44 hP hD hS
abbrev rm_J4_append_15ec4 : Room := { frames := 4, cells := 0, slots := 0, locals := 127 }
set_option maxHeartbeats 4000000 in
set_option maxRecDepth 100000 in
theorem j_J4_append_15ec4 (l : Launch) (D : va_G) (cI cD cB : ClassId) (a : Nat) (v : Nat) (ml : Int32) (g : Nat → Int32) : Cg l yJ4_append_15ec4 wsJ4_append_15ec4 rm_J4_append_15ec4 D (TT cI cD cB) [.ref a, .ref (D.2 kT 0)] [(a, .inr (1, [.ref v, .int (0 : Int32), .int ml, .int (0 : Int32)])), (v, .inl (cB, 17, .inl g))] (fun u : Nat → Nat => a) (fun u : Nat → Nat => [(a, .inr (1, [.ref v, .int (0 : Int32), .int ml, .int ((0 : Int32) + (1 : Int32))])), (v, .inl (cB, 17, .inl (va_cpy (fun j => (([[84]] : List (List Int32)).getD 0 []).getD j 0) g ((0 : Int32)).toNatClampNeg ((0 : Int32)).toNatClampNeg ((1 : Int32)).toNatClampNeg)))]) 0 0 := by
  refine st_g (Or.inl ⟨_, rfl⟩) (cc := cJ4_append_15ec4) (maxL := 2) (by decide) rfl (Nat.le_of_ble_eq_true rfl) (fun p e s m av below meth c A Q ls hx hb hml hts hown hin hA hK hNM hZ hP hD hS hl hfin => ?_)
  have hown : s.vm.findClass RJ4 = some m.cls := hown
  have hl : lv_has ls 2 [(0, .ref a), (1, .ref (D.2 kT 0))] := hl
  refine lv_aload_n hx hb dJ4_append_15ec4_0 rfl (lv_at hl 0 rfl) ?_
  refine lv_aload_n hx hb dJ4_append_15ec4_1 rfl (lv_at hl 1 rfl) ?_
  refine co_g (W0 := [(a, .inr (1, [.ref v, .int (0 : Int32), .int ml, .int (0 : Int32)])), (v, .inl (cB, 17, .inl g))]) (wr := []) (W1 := (fun u1 : Nat → Nat => [(a, .inr (1, [.ref v, .int (0 : Int32), .int ml, .int ((0 : Int32) + (1 : Int32))])), (v, .inl (cB, 17, .inl (va_cpy (fun j => (([[84]] : List (List Int32)).getD 0 []).getD j 0) g ((0 : Int32)).toNatClampNeg ((0 : Int32)).toNatClampNeg ((1 : Int32)).toNatClampNeg)))])) (ws2 := (fun u1 : Nat → Nat => [(a, .inr (1, [.ref v, .int (0 : Int32), .int ml, .int ((0 : Int32) + (1 : Int32))])), (v, .inl (cB, 17, .inl (va_cpy (fun j => (([[84]] : List (List Int32)).getD 0 []).getD j 0) g ((0 : Int32)).toNatClampNeg ((0 : Int32)).toNatClampNeg ((1 : Int32)).toNatClampNeg)))])) (r := (fun u1 : Nat → Nat => a)) (va_runSU (hK.1 1 (RJ4, TJ4, 4) rfl).2 (C := RJ4) (As := [.ref (D.2 kT 0)]) (rest := []) ⟨hx, hb, hml, hown, hts⟩ (j_J5_append_cf1ce l D cI cD cB a v ml g _) (va_cwSU 1 hts gJ4_append_15ec4_J5_append_cf1ce_s29 rfl rfl rfl ⟨by decide, by decide +kernel⟩ ⟨Nat.le_of_ble_eq_true rfl, Nat.le_of_ble_eq_true rfl⟩) (my_preV (q := (RJ4, TJ4, 4)) (ci := 1) (q0 := 0) [0, 1] hP hK hNM hZ hD hS hA rfl rfl rfl rfl) rfl rfl hl.1 rfl (lv_room (Nat.le_of_ble_eq_true rfl)) dJ4_append_15ec4_2 ⟨Nat.le_of_ble_eq_true rfl, Nat.le_of_ble_eq_true rfl⟩) hP hD hS hA [0, 1] [] [0, 1] rfl rfl (fun _ => rfl) rfl rfl (by decide) (fun u1 H locs hP hD hS => ?_)
  have hP : va_P D vwCl [(a, .inr (1, [.ref v, .int (0 : Int32), .int ml, .int ((0 : Int32) + (1 : Int32))])), (v, .inl (cB, 17, .inl (va_cpy (fun j => (([[84]] : List (List Int32)).getD 0 []).getD j 0) g ((0 : Int32)).toNatClampNeg ((0 : Int32)).toNatClampNeg ((1 : Int32)).toNatClampNeg)))] H := hP
  have hD : va_D A [(a, .inr (1, [.ref v, .int (0 : Int32), .int ml, .int ((0 : Int32) + (1 : Int32))])), (v, .inl (cB, 17, .inl (va_cpy (fun j => (([[84]] : List (List Int32)).getD 0 []).getD j 0) g ((0 : Int32)).toNatClampNeg ((0 : Int32)).toNatClampNeg ((1 : Int32)).toNatClampNeg)))] := hD
  refine lv_pop hx hb dJ4_append_15ec4_5 rfl ?_
  refine lv_aload_n hx hb dJ4_append_15ec4_6 rfl (lv_at hl 0 rfl) ?_
  exact hfin 7 _ _ _ (fun k => ([] : List Nat).getD k 0) dJ4_append_15ec4_7 hP hD hS
abbrev rm_J4_append_cf1ce : Room := { frames := 5, cells := 0, slots := 0, locals := 148 }
set_option maxHeartbeats 4000000 in
set_option maxRecDepth 100000 in
theorem j_J4_append_cf1ce (l : Launch) (D : va_G) (cI cD cB : ClassId) (a : Nat) (v : Nat) (ml : Int32) (g : Nat → Int32) : Cg l yJ4_append_cf1ce wsJ4_append_cf1ce rm_J4_append_cf1ce D (TT cI cD cB) [.ref a, .ref (D.2 kT 0)] [(a, .inr (1, [.ref v, .int (0 : Int32), .int ml, .int (0 : Int32)])), (v, .inl (cB, 17, .inl g))] (fun u : Nat → Nat => a) (fun u : Nat → Nat => [(a, .inr (1, [.ref v, .int (0 : Int32), .int ml, .int ((0 : Int32) + (1 : Int32))])), (v, .inl (cB, 17, .inl (va_cpy (fun j => (([[84]] : List (List Int32)).getD 0 []).getD j 0) g ((0 : Int32)).toNatClampNeg ((0 : Int32)).toNatClampNeg ((1 : Int32)).toNatClampNeg)))]) 0 0 := by
  refine st_g (Or.inl ⟨_, rfl⟩) (cc := cJ4_append_cf1ce) (maxL := 2) (by decide) rfl (Nat.le_of_ble_eq_true rfl) (fun p e s m av below meth c A Q ls hx hb hml hts hown hin hA hK hNM hZ hP hD hS hl hfin => ?_)
  have hown : s.vm.findClass RJ4 = some m.cls := hown
  have hl : lv_has ls 2 [(0, .ref a), (1, .ref (D.2 kT 0))] := hl
  refine lv_aload_n hx hb dJ4_append_cf1ce_0 rfl (lv_at hl 0 rfl) ?_
  refine lv_aload_n hx hb dJ4_append_cf1ce_1 rfl (lv_at hl 1 rfl) ?_
  refine co_g (W0 := [(a, .inr (1, [.ref v, .int (0 : Int32), .int ml, .int (0 : Int32)])), (v, .inl (cB, 17, .inl g))]) (wr := []) (W1 := (fun u1 : Nat → Nat => [(a, .inr (1, [.ref v, .int (0 : Int32), .int ml, .int ((0 : Int32) + (1 : Int32))])), (v, .inl (cB, 17, .inl (va_cpy (fun j => (([[84]] : List (List Int32)).getD 0 []).getD j 0) g ((0 : Int32)).toNatClampNeg ((0 : Int32)).toNatClampNeg ((1 : Int32)).toNatClampNeg)))])) (ws2 := (fun u1 : Nat → Nat => [(a, .inr (1, [.ref v, .int (0 : Int32), .int ml, .int ((0 : Int32) + (1 : Int32))])), (v, .inl (cB, 17, .inl (va_cpy (fun j => (([[84]] : List (List Int32)).getD 0 []).getD j 0) g ((0 : Int32)).toNatClampNeg ((0 : Int32)).toNatClampNeg ((1 : Int32)).toNatClampNeg)))])) (r := (fun u1 : Nat → Nat => a)) (va_runV (C := RJ4) (As := [.ref (D.2 kT 0)]) (rest := []) ⟨hx, hb, hml, hown, hts⟩ (j_J4_append_15ec4 l D cI cD cB a v ml g _) (cwV 1 hts gJ4_append_cf1ce_J4_append_15ec4 rfl rfl rfl (by decide +kernel) ⟨Nat.le_of_ble_eq_true rfl, Nat.le_of_ble_eq_true rfl⟩) (my_preV (q := (RJ4, TJ4, 4)) (ci := 1) (q0 := 0) [0, 1] hP hK hNM hZ hD hS hA rfl rfl rfl rfl) rfl rfl hl.1 rfl (lv_room (Nat.le_of_ble_eq_true rfl)) dJ4_append_cf1ce_2 ⟨Nat.le_of_ble_eq_true rfl, Nat.le_of_ble_eq_true rfl⟩) hP hD hS hA [0, 1] [] [0, 1] rfl rfl (fun _ => rfl) rfl rfl (by decide) (fun u1 H locs hP hD hS => ?_)
  have hP : va_P D vwCl [(a, .inr (1, [.ref v, .int (0 : Int32), .int ml, .int ((0 : Int32) + (1 : Int32))])), (v, .inl (cB, 17, .inl (va_cpy (fun j => (([[84]] : List (List Int32)).getD 0 []).getD j 0) g ((0 : Int32)).toNatClampNeg ((0 : Int32)).toNatClampNeg ((1 : Int32)).toNatClampNeg)))] H := hP
  have hD : va_D A [(a, .inr (1, [.ref v, .int (0 : Int32), .int ml, .int ((0 : Int32) + (1 : Int32))])), (v, .inl (cB, 17, .inl (va_cpy (fun j => (([[84]] : List (List Int32)).getD 0 []).getD j 0) g ((0 : Int32)).toNatClampNeg ((0 : Int32)).toNatClampNeg ((1 : Int32)).toNatClampNeg)))] := hD
  exact hfin 5 _ _ _ (fun k => ([] : List Nat).getD k 0) dJ4_append_cf1ce_5 hP hD hS
theorem mc_J5_init_a7421_J4 : ∀ w ∈ wsJ40, w ∈ wsJ5_init_a7421 := by decide +kernel
theorem mj_J5_init_a7421_ab : Cond.arrayClass .byte ∈ wsJ5_init_a7421 := by decide +kernel
theorem mj_J5_init_a7421_f15 : Cond.fieldLink RJ5 15 "java/lang/AbstractStringBuilder" "value" "[B" ∈ wsJ5_init_a7421 := by decide +kernel
theorem mj_J5_init_a7421_f22 : Cond.fieldLink RJ5 22 "java/lang/AbstractStringBuilder" "coder" "B" ∈ wsJ5_init_a7421 := by decide +kernel
theorem mj_J5_init_a7421_k38 : Cond.constant RJ5 38 (2147483631) ∈ wsJ5_init_a7421 := by decide +kernel
theorem mj_J5_init_a7421_oc : Cond.code objectInit ⟨#[0xb1]⟩ 1 none ∈ wsJ5_init_a7421 := by decide +kernel
theorem mj_J5_init_a7421_oi : Cond.methodLink RJ5 3 objectInit ∈ wsJ5_init_a7421 := by decide +kernel
theorem mj_J5_init_a7421_oo : Cond.instanceMethod objectInit ∈ wsJ5_init_a7421 := by decide +kernel
theorem mj_J5_init_a7421_ovJ5_append_cf1ce : Cond.code yJ5_append_cf1ce cJ5_append_cf1ce 3 (some (.object "java/lang/AbstractStringBuilder")) ∈ wsJ5_init_a7421 := by decide +kernel
abbrev rm_J5_init_a7421 : Room := { frames := 6, cells := 1, slots := 20, locals := 169 }
set_option maxHeartbeats 4000000 in
set_option maxRecDepth 100000 in
theorem j_J5_init_a7421 (l : Launch) (D : va_G) (cI cD cB : ClassId) (a : Nat) : Ck l yJ5_init_a7421 wsJ5_init_a7421 rm_J5_init_a7421 D (TT cI cD cB) [.ref a, .ref (D.2 kT 0)] [(a, .inr (1, [.null, .int 0, .int 0, .int 0]))] (fun u : Nat → Nat => [(a, .inr (1, [.ref (u 0), .int (0 : Int32), .int 0, .int ((0 : Int32) + (1 : Int32))])), (u 0, .inl (cB, 17, .inl (va_cpy (fun j => (([[84]] : List (List Int32)).getD 0 []).getD j 0) (fun _ => 0) ((0 : Int32)).toNatClampNeg ((0 : Int32)).toNatClampNeg ((1 : Int32)).toNatClampNeg)))]) 1 20 := by
  refine st_k (cc := cJ5_init_a7421) (maxL := 5) (by decide) rfl (Nat.le_of_ble_eq_true rfl) (fun p e s m av below meth c A Q ls hx hb hml hts hown hin hA hK hNM hZ hP hD hS hl hfin => ?_)
  have hown : s.vm.findClass RJ5 = some m.cls := hown
  have hl : lv_has ls 5 [(0, .ref a), (1, .ref (D.2 kT 0))] := hl
  refine lv_aload_n hx hb dJ5_init_a7421_0 rfl (lv_at hl 0 rfl) ?_
  refine W.objInit hx hb hown (hts _ mj_J5_init_a7421_oi) (hts _ mj_J5_init_a7421_oo) (hts _ mj_J5_init_a7421_oc) rfl (by rw [hml]; exact hl.1) rfl dJ5_init_a7421_1 (Nat.le_of_ble_eq_true rfl) (Nat.le_of_ble_eq_true rfl) ?_
  refine W.eq (g2 := F0 m 4 ls []) rfl ?_
  refine lv_aload_n hx hb dJ5_init_a7421_4 rfl (lv_at hl 1 rfl) ?_
  refine co_i (W0 := []) (wr := [(a, .inr (1, [.null, .int 0, .int 0, .int 0]))]) (W1 := []) (ws2 := [(a, .inr (1, [.null, .int 0, .int 0, .int 0]))]) (va_runV (C := RJ0) (As := []) (rest := []) ⟨hx, hb, hml, hown, hts⟩ (j_J0_length_8abf5 l D cI cD cB _) (cwV 0 hts gJ5_init_a7421_J0_length_8abf5 rfl rfl rfl (by decide +kernel) ⟨Nat.le_of_ble_eq_true rfl, Nat.le_of_ble_eq_true rfl⟩) (my_preK [] hP hK hNM hZ hD hS hA rfl rfl) rfl rfl hl.1 rfl (lv_room (Nat.le_of_ble_eq_true rfl)) dJ5_init_a7421_5 ⟨Nat.le_of_ble_eq_true rfl, Nat.le_of_ble_eq_true rfl⟩) hP hD hS hA [] [0] [0] rfl rfl rfl rfl rfl (by decide) (fun H locs hP hD hS => ?_)
  have hP : va_P D vwCl [(a, .inr (1, [.null, .int 0, .int 0, .int 0]))] H := hP
  have hD : va_D A [(a, .inr (1, [.null, .int 0, .int 0, .int 0]))] := hD
  refine lv_istore_n (lv' := [(2, .int (1 : Int32)), (0, .ref a), (1, .ref (D.2 kT 0))]) hx hb dJ5_init_a7421_8 rfl hl (by decide) rfl (fun ls hl => ?_)
  refine lv_iload_n hx hb dJ5_init_a7421_9 rfl (lv_at hl 0 rfl) ?_
  refine lv_ldc (v := (2147483631 : Int32)) hx hb hown (hts _ mj_J5_init_a7421_k38) dJ5_init_a7421_10 ?_
  refine lv_icmp_ge (tgt := 22) hx hb dJ5_init_a7421_12 (by decide) (fun q => absurd q (by decide)) (fun _ => ?_)
  refine lv_iload_n hx hb dJ5_init_a7421_15 rfl (lv_at hl 0 rfl) ?_
  refine lv_bipush (v := (16 : Int32)) hx hb dJ5_init_a7421_16 (by decide) ?_
  refine lv_iadd hx hb dJ5_init_a7421_18 ?_
  refine lv_goto (tgt := 24) hx hb dJ5_init_a7421_19 (by decide) ?_
  refine lv_istore_n (lv' := [(3, .int ((1 : Int32) + (16 : Int32))), (2, .int (1 : Int32)), (0, .ref a), (1, .ref (D.2 kT 0))]) hx hb dJ5_init_a7421_24 rfl hl (by decide) rfl (fun ls hl => ?_)
  refine lv_aload_n hx hb dJ5_init_a7421_25 rfl (lv_at hl 3 rfl) ?_
  refine co_i (W0 := []) (wr := [(a, .inr (1, [.null, .int 0, .int 0, .int 0]))]) (W1 := []) (ws2 := [(a, .inr (1, [.null, .int 0, .int 0, .int 0]))]) (va_runV (C := RJ0) (As := []) (rest := []) ⟨hx, hb, hml, hown, hts⟩ (j_J0_coder_7d493 l D cI cD cB _) (cwV 0 hts gJ5_init_a7421_J0_coder_7d493 rfl rfl rfl (by decide +kernel) ⟨Nat.le_of_ble_eq_true rfl, Nat.le_of_ble_eq_true rfl⟩) (my_preK [] hP hK hNM hZ hD hS hA rfl rfl) rfl rfl hl.1 rfl (lv_room (Nat.le_of_ble_eq_true rfl)) dJ5_init_a7421_26 ⟨Nat.le_of_ble_eq_true rfl, Nat.le_of_ble_eq_true rfl⟩) hP hD hS hA [] [0] [0] rfl rfl rfl rfl rfl (by decide) (fun H locs hP hD hS => ?_)
  have hP : va_P D vwCl [(a, .inr (1, [.null, .int 0, .int 0, .int 0]))] H := hP
  have hD : va_D A [(a, .inr (1, [.null, .int 0, .int 0, .int 0]))] := hD
  refine lv_istore (lv' := [(4, .int (0 : Int32)), (3, .int ((1 : Int32) + (16 : Int32))), (2, .int (1 : Int32)), (0, .ref a), (1, .ref (D.2 kT 0))]) hx hb dJ5_init_a7421_29 hl (by decide) rfl (fun ls hl => ?_)
  refine lv_aload_n hx hb dJ5_init_a7421_31 rfl (lv_at hl 3 rfl) ?_
  refine lv_iload hx hb dJ5_init_a7421_32 (lv_at hl 0 rfl) ?_
  refine va_put (D := D) (ci := 1) (v := .int (0 : Int32)) (ty := .byte) (C := RJ4) (T := TJ4) (N := 4) hx hb hts mc_J5_init_a7421_J4 tyJ4 tyJ4_ok nmJ4 hown hK hP hD hS 0 rfl rfl 1 (by decide) (hts _ mj_J5_init_a7421_f22) (fun _ h9 => h9) rfl (tyJ4_ok 1 (by decide)) rfl rfl (Nat.le_of_ble_eq_true rfl) dJ5_init_a7421_34 (fun H locs hP hD hS => ?_)
  have hP : va_P D vwCl [(a, .inr (1, [.null, .int (0 : Int32), .int 0, .int 0]))] H := hP
  have hD : va_D A [(a, .inr (1, [.null, .int (0 : Int32), .int 0, .int 0]))] := hD
  refine lv_aload_n hx hb dJ5_init_a7421_37 rfl (lv_at hl 3 rfl) ?_
  refine lv_iload hx hb dJ5_init_a7421_38 (lv_at hl 0 rfl) ?_
  refine lv_if_ne (tgt := 49) hx hb dJ5_init_a7421_40 (by decide) (fun q => absurd q (by decide)) (fun _ => ?_)
  refine lv_iload_n hx hb dJ5_init_a7421_43 rfl (lv_at hl 1 rfl) ?_
  refine va_newa (atype := .byte) (ty := .byte) (N' := 17) (a0 := (17, .inl (fun _ => 0))) hx hb (hts _ mj_J5_init_a7421_ab) rfl hK hP hD hS hA (fun _ => rfl) (by decide) (by decide) (by decide) (Nat.le_of_ble_eq_true rfl) (by show _ + 17 ≤ 20; omega) dJ5_init_a7421_44 (fun q0 cA H hK9 hP hD hS => ?_)
  obtain rfl : cB = cA := my_one hK9 (i := 2) (j := 3) rfl rfl rfl
  have hP : va_P D vwCl [(a, .inr (1, [.null, .int (0 : Int32), .int 0, .int 0])), (q0, .inl (cB, 17, .inl (fun _ => 0)))] H := hP
  have hD : va_D A [(a, .inr (1, [.null, .int (0 : Int32), .int 0, .int 0])), (q0, .inl (cB, 17, .inl (fun _ => 0)))] := hD
  refine W.widen (k := 1) (n := 20) (by omega) (by omega) ?_
  refine lv_goto (tgt := 53) hx hb dJ5_init_a7421_46 (by decide) ?_
  refine va_put (D := D) (ci := 1) (v := .ref q0) (ty := .array .byte) (C := RJ4) (T := TJ4) (N := 4) hx hb hts mc_J5_init_a7421_J4 tyJ4 tyJ4_ok nmJ4 hown hK hP hD hS 0 rfl rfl 0 (by decide) (hts _ mj_J5_init_a7421_f15) (fun _ h9 => h9) rfl (tyJ4_ok 0 (by decide)) rfl rfl (Nat.le_of_ble_eq_true rfl) dJ5_init_a7421_53 (fun H locs hP hD hS => ?_)
  have hP : va_P D vwCl [(a, .inr (1, [.ref q0, .int (0 : Int32), .int 0, .int 0])), (q0, .inl (cB, 17, .inl (fun _ => 0)))] H := hP
  have hD : va_D A [(a, .inr (1, [.ref q0, .int (0 : Int32), .int 0, .int 0])), (q0, .inl (cB, 17, .inl (fun _ => 0)))] := hD
  refine lv_aload_n hx hb dJ5_init_a7421_56 rfl (lv_at hl 3 rfl) ?_
  refine lv_aload_n hx hb dJ5_init_a7421_57 rfl (lv_at hl 4 rfl) ?_
  refine co_g (W0 := [(a, .inr (1, [.ref q0, .int (0 : Int32), .int 0, .int 0])), (q0, .inl (cB, 17, .inl (fun _ => 0)))]) (wr := []) (W1 := (fun u1 : Nat → Nat => [(a, .inr (1, [.ref q0, .int (0 : Int32), .int 0, .int ((0 : Int32) + (1 : Int32))])), (q0, .inl (cB, 17, .inl (va_cpy (fun j => (([[84]] : List (List Int32)).getD 0 []).getD j 0) (fun _ => 0) ((0 : Int32)).toNatClampNeg ((0 : Int32)).toNatClampNeg ((1 : Int32)).toNatClampNeg)))])) (ws2 := (fun u1 : Nat → Nat => [(a, .inr (1, [.ref q0, .int (0 : Int32), .int 0, .int ((0 : Int32) + (1 : Int32))])), (q0, .inl (cB, 17, .inl (va_cpy (fun j => (([[84]] : List (List Int32)).getD 0 []).getD j 0) (fun _ => 0) ((0 : Int32)).toNatClampNeg ((0 : Int32)).toNatClampNeg ((1 : Int32)).toNatClampNeg)))])) (r := (fun u1 : Nat → Nat => a)) (va_runU (C := RJ4) (As := [.ref (D.2 kT 0)]) (rest := []) ⟨hx, hb, hml, hown, hts⟩ (j_J4_append_cf1ce l D cI cD cB a q0 0 (fun _ => 0) _) (va_cwO 1 hts gJ5_init_a7421_J4_append_cf1ce_u43J4 rfl rfl rfl mj_J5_init_a7421_ovJ5_append_cf1ce ⟨by decide, by decide, by decide +kernel⟩ ⟨Nat.le_of_ble_eq_true rfl, Nat.le_of_ble_eq_true rfl⟩) (my_preV (q := (RJ4, TJ4, 4)) (ci := 1) (q0 := 0) [0, 1] hP hK hNM hZ hD hS hA rfl rfl rfl rfl) rfl rfl hl.1 rfl (lv_room (Nat.le_of_ble_eq_true rfl)) dJ5_init_a7421_58 ⟨Nat.le_of_ble_eq_true rfl, Nat.le_of_ble_eq_true rfl⟩) hP hD hS hA [0, 1] [] [0, 1] rfl rfl (fun _ => rfl) rfl rfl (by decide) (fun u1 H locs hP hD hS => ?_)
  have hP : va_P D vwCl [(a, .inr (1, [.ref q0, .int (0 : Int32), .int 0, .int ((0 : Int32) + (1 : Int32))])), (q0, .inl (cB, 17, .inl (va_cpy (fun j => (([[84]] : List (List Int32)).getD 0 []).getD j 0) (fun _ => 0) ((0 : Int32)).toNatClampNeg ((0 : Int32)).toNatClampNeg ((1 : Int32)).toNatClampNeg)))] H := hP
  have hD : va_D A [(a, .inr (1, [.ref q0, .int (0 : Int32), .int 0, .int ((0 : Int32) + (1 : Int32))])), (q0, .inl (cB, 17, .inl (va_cpy (fun j => (([[84]] : List (List Int32)).getD 0 []).getD j 0) (fun _ => 0) ((0 : Int32)).toNatClampNeg ((0 : Int32)).toNatClampNeg ((1 : Int32)).toNatClampNeg)))] := hD
  refine lv_pop hx hb dJ5_init_a7421_61 rfl ?_
  refine W.widen (k := 1) (n := 20) (by omega) (by omega) ?_
  exact hfin 62 _ _ _ (fun k => ([q0] : List Nat).getD k 0) dJ5_init_a7421_62 hP hD hS
theorem mj_J4_init_a7421_imJ5_init_a7421 : Cond.instanceMethod yJ5_init_a7421 ∈ wsJ4_init_a7421 := by decide +kernel
theorem mj_J4_init_a7421_itJ5 : Cond.initialized RJ5 ∈ wsJ4_init_a7421 := by decide +kernel
theorem mj_J4_init_a7421_mlJ5_init_a7421 : Cond.methodLink RJ4 7 yJ5_init_a7421 ∈ wsJ4_init_a7421 := by decide +kernel
abbrev rm_J4_init_a7421 : Room := { frames := 7, cells := 1, slots := 20, locals := 193 }
set_option maxHeartbeats 4000000 in
set_option maxRecDepth 100000 in
theorem j_J4_init_a7421 (l : Launch) (D : va_G) (cI cD cB : ClassId) (a : Nat) : Ck l yJ4_init_a7421 wsJ4_init_a7421 rm_J4_init_a7421 D (TT cI cD cB) [.ref a, .ref (D.2 kT 0)] [(a, .inr (1, [.null, .int 0, .int 0, .int 0]))] (fun u : Nat → Nat => [(a, .inr (1, [.ref (u 0), .int (0 : Int32), .int 0, .int ((0 : Int32) + (1 : Int32))])), (u 0, .inl (cB, 17, .inl (va_cpy (fun j => (([[84]] : List (List Int32)).getD 0 []).getD j 0) (fun _ => 0) ((0 : Int32)).toNatClampNeg ((0 : Int32)).toNatClampNeg ((1 : Int32)).toNatClampNeg)))]) 1 20 := by
  refine st_k (cc := cJ4_init_a7421) (maxL := 2) (by decide) rfl (Nat.le_of_ble_eq_true rfl) (fun p e s m av below meth c A Q ls hx hb hml hts hown hin hA hK hNM hZ hP hD hS hl hfin => ?_)
  have hown : s.vm.findClass RJ4 = some m.cls := hown
  have hl : lv_has ls 2 [(0, .ref a), (1, .ref (D.2 kT 0))] := hl
  refine lv_aload_n hx hb dJ4_init_a7421_0 rfl (lv_at hl 0 rfl) ?_
  refine lv_aload_n hx hb dJ4_init_a7421_1 rfl (lv_at hl 1 rfl) ?_
  refine co_k (W0 := [(a, .inr (1, [.null, .int 0, .int 0, .int 0]))]) (wr := []) (W1 := (fun u1 : Nat → Nat => [(a, .inr (1, [.ref (u1 0), .int (0 : Int32), .int 0, .int ((0 : Int32) + (1 : Int32))])), ((u1 0), .inl (cB, 17, .inl (va_cpy (fun j => (([[84]] : List (List Int32)).getD 0 []).getD j 0) (fun _ => 0) ((0 : Int32)).toNatClampNeg ((0 : Int32)).toNatClampNeg ((1 : Int32)).toNatClampNeg)))])) (ws2 := (fun u1 : Nat → Nat => [(a, .inr (1, [.ref (u1 0), .int (0 : Int32), .int 0, .int ((0 : Int32) + (1 : Int32))])), ((u1 0), .inl (cB, 17, .inl (va_cpy (fun j => (([[84]] : List (List Int32)).getD 0 []).getD j 0) (fun _ => 0) ((0 : Int32)).toNatClampNeg ((0 : Int32)).toNatClampNeg ((1 : Int32)).toNatClampNeg)))])) (va_runI (As := [.ref (D.2 kT 0)]) (rest := []) ⟨hx, hb, hml, hown, hts⟩ (j_J5_init_a7421 l D cI cD cB a _) (cwI 1 hts gJ4_init_a7421_J5_init_a7421 rfl rfl rfl (hts _ mj_J4_init_a7421_itJ5) (hts _ mj_J4_init_a7421_mlJ5_init_a7421) (hts _ mj_J4_init_a7421_imJ5_init_a7421) rfl (by decide +kernel) ⟨Nat.le_of_ble_eq_true rfl, Nat.le_of_ble_eq_true rfl⟩) (my_preS [0] hP hK hNM hZ hD hS hA rfl rfl) rfl rfl hl.1 rfl (lv_room (Nat.le_of_ble_eq_true rfl)) dJ4_init_a7421_2 ⟨Nat.le_of_ble_eq_true rfl, Nat.le_of_ble_eq_true rfl⟩) hP hD hS hA [0] [] [0, 1] rfl rfl (fun _ => rfl) rfl rfl (by decide) (fun u1 H locs hP hD hS => ?_)
  have hP : va_P D vwCl [(a, .inr (1, [.ref (u1 0), .int (0 : Int32), .int 0, .int ((0 : Int32) + (1 : Int32))])), ((u1 0), .inl (cB, 17, .inl (va_cpy (fun j => (([[84]] : List (List Int32)).getD 0 []).getD j 0) (fun _ => 0) ((0 : Int32)).toNatClampNeg ((0 : Int32)).toNatClampNeg ((1 : Int32)).toNatClampNeg)))] H := hP
  have hD : va_D A [(a, .inr (1, [.ref (u1 0), .int (0 : Int32), .int 0, .int ((0 : Int32) + (1 : Int32))])), ((u1 0), .inl (cB, 17, .inl (va_cpy (fun j => (([[84]] : List (List Int32)).getD 0 []).getD j 0) (fun _ => 0) ((0 : Int32)).toNatClampNeg ((0 : Int32)).toNatClampNeg ((1 : Int32)).toNatClampNeg)))] := hD
  refine W.widen (k := 1) (n := 20) (by omega) (by omega) ?_
  refine W.widen (k := 1) (n := 20) (by omega) (by omega) ?_
  exact hfin 5 _ _ _ (fun k => ([(u1 0)] : List Nat).getD k 0) dJ4_init_a7421_5 hP hD hS
theorem mc_J5_getValue_6d5f1_J4 : ∀ w ∈ wsJ40, w ∈ wsJ5_getValue_6d5f1 := by decide +kernel
theorem mj_J5_getValue_6d5f1_f15 : Cond.fieldLink RJ5 15 "java/lang/AbstractStringBuilder" "value" "[B" ∈ wsJ5_getValue_6d5f1 := by decide +kernel
abbrev rm_J5_getValue_6d5f1 : Room := { frames := 0, cells := 0, slots := 0, locals := 0 }
set_option maxHeartbeats 4000000 in
set_option maxRecDepth 100000 in
theorem j_J5_getValue_6d5f1 (l : Launch) (D : va_G) (cI cD cB : ClassId) (a : Nat) (v : Nat) (ml : Int32) (n : Int32) : Cg l yJ5_getValue_6d5f1 wsJ5_getValue_6d5f1 rm_J5_getValue_6d5f1 D (TT cI cD cB) [.ref a] [(a, .inr (1, [.ref v, .int (0 : Int32), .int ml, .int n]))] (fun u : Nat → Nat => v) (fun u : Nat → Nat => [(a, .inr (1, [.ref v, .int (0 : Int32), .int ml, .int n]))]) 0 0 := by
  refine st_g (Or.inr ⟨_, rfl⟩) (cc := cJ5_getValue_6d5f1) (maxL := 1) (by decide) rfl (Nat.le_of_ble_eq_true rfl) (fun p e s m av below meth c A Q ls hx hb hml hts hown hin hA hK hNM hZ hP hD hS hl hfin => ?_)
  have hown : s.vm.findClass RJ5 = some m.cls := hown
  have hl : lv_has ls 1 [(0, .ref a)] := hl
  refine lv_aload_n hx hb dJ5_getValue_6d5f1_0 rfl (lv_at hl 0 rfl) ?_
  refine va_get (D := D) (ci := 1) (v := .ref v) (C := RJ4) (T := TJ4) (N := 4) hx hb hts mc_J5_getValue_6d5f1_J4 hown hK hP 0 rfl rfl 0 (by decide) (hts _ mj_J5_getValue_6d5f1_f15) (fun _ h9 => h9) rfl dJ5_getValue_6d5f1_1 ?_
  exact hfin 4 _ _ _ (fun k => ([] : List Nat).getD k 0) dJ5_getValue_6d5f1_4 hP hD hS
theorem mc_J5_length_8abf5_J4 : ∀ w ∈ wsJ40, w ∈ wsJ5_length_8abf5 := by decide +kernel
theorem mj_J5_length_8abf5_f79 : Cond.fieldLink RJ5 79 "java/lang/AbstractStringBuilder" "count" "I" ∈ wsJ5_length_8abf5 := by decide +kernel
abbrev rm_J5_length_8abf5 : Room := { frames := 0, cells := 0, slots := 0, locals := 0 }
set_option maxHeartbeats 4000000 in
set_option maxRecDepth 100000 in
theorem j_J5_length_8abf5 (l : Launch) (D : va_G) (cI cD cB : ClassId) (a : Nat) (v : Nat) (ml : Int32) (n : Int32) : Ci l yJ5_length_8abf5 wsJ5_length_8abf5 rm_J5_length_8abf5 D (TT cI cD cB) [.ref a] [(a, .inr (1, [.ref v, .int (0 : Int32), .int ml, .int n]))] [(a, .inr (1, [.ref v, .int (0 : Int32), .int ml, .int n]))] n 0 0 := by
  refine st_i (cc := cJ5_length_8abf5) (maxL := 1) (by decide) rfl (Nat.le_of_ble_eq_true rfl) (fun p e s m av below meth c A Q ls hx hb hml hts hown hA hK hNM hZ hP hD hS hl hfin => ?_)
  have hown : s.vm.findClass RJ5 = some m.cls := hown
  have hl : lv_has ls 1 [(0, .ref a)] := hl
  refine lv_aload_n hx hb dJ5_length_8abf5_0 rfl (lv_at hl 0 rfl) ?_
  refine va_get (D := D) (ci := 1) (v := .int n) (C := RJ4) (T := TJ4) (N := 4) hx hb hts mc_J5_length_8abf5_J4 hown hK hP 0 rfl rfl 3 (by decide) (hts _ mj_J5_length_8abf5_f79) (fun _ h9 => h9) rfl dJ5_length_8abf5_1 ?_
  exact hfin 4 _ _ _ dJ5_length_8abf5_4 rfl hP hD hS
abbrev rm_J4_length_8abf5 : Room := { frames := 1, cells := 0, slots := 0, locals := 20 }
set_option maxHeartbeats 4000000 in
set_option maxRecDepth 100000 in
theorem j_J4_length_8abf5 (l : Launch) (D : va_G) (cI cD cB : ClassId) (a : Nat) (v : Nat) (ml : Int32) (n : Int32) : Ci l yJ4_length_8abf5 wsJ4_length_8abf5 rm_J4_length_8abf5 D (TT cI cD cB) [.ref a] [(a, .inr (1, [.ref v, .int (0 : Int32), .int ml, .int n]))] [(a, .inr (1, [.ref v, .int (0 : Int32), .int ml, .int n]))] n 0 0 := by
  refine st_i (cc := cJ4_length_8abf5) (maxL := 1) (by decide) rfl (Nat.le_of_ble_eq_true rfl) (fun p e s m av below meth c A Q ls hx hb hml hts hown hA hK hNM hZ hP hD hS hl hfin => ?_)
  have hown : s.vm.findClass RJ4 = some m.cls := hown
  have hl : lv_has ls 1 [(0, .ref a)] := hl
  refine lv_aload_n hx hb dJ4_length_8abf5_0 rfl (lv_at hl 0 rfl) ?_
  refine co_i (W0 := [(a, .inr (1, [.ref v, .int (0 : Int32), .int ml, .int n]))]) (wr := []) (W1 := [(a, .inr (1, [.ref v, .int (0 : Int32), .int ml, .int n]))]) (ws2 := [(a, .inr (1, [.ref v, .int (0 : Int32), .int ml, .int n]))]) (va_runSU (hK.1 1 (RJ4, TJ4, 4) rfl).2 (C := RJ4) (As := []) (rest := []) ⟨hx, hb, hml, hown, hts⟩ (j_J5_length_8abf5 l D cI cD cB a v ml n _) (va_cwSU 0 hts gJ4_length_8abf5_J5_length_8abf5_s343 rfl rfl rfl ⟨by decide, by decide +kernel⟩ ⟨Nat.le_of_ble_eq_true rfl, Nat.le_of_ble_eq_true rfl⟩) (my_preV (q := (RJ4, TJ4, 4)) (ci := 1) (q0 := 0) [0] hP hK hNM hZ hD hS hA rfl rfl rfl rfl) rfl rfl hl.1 rfl (lv_room (Nat.le_of_ble_eq_true rfl)) dJ4_length_8abf5_1 ⟨Nat.le_of_ble_eq_true rfl, Nat.le_of_ble_eq_true rfl⟩) hP hD hS hA [0] [] [0] rfl rfl rfl rfl rfl (by decide) (fun H locs hP hD hS => ?_)
  have hP : va_P D vwCl [(a, .inr (1, [.ref v, .int (0 : Int32), .int ml, .int n]))] H := hP
  have hD : va_D A [(a, .inr (1, [.ref v, .int (0 : Int32), .int ml, .int n]))] := hD
  exact hfin 4 _ _ _ dJ4_length_8abf5_4 rfl hP hD hS
abbrev rm_J7_checkLength_df160 : Room := { frames := 0, cells := 0, slots := 0, locals := 0 }
set_option maxHeartbeats 4000000 in
set_option maxRecDepth 100000 in
theorem j_J7_checkLength_df160 (l : Launch) (D : va_G) (cI cD cB : ClassId) (k : Nat) (hk : k ≤ 10) : Cv l yJ7_checkLength_df160 wsJ7_checkLength_df160 rm_J7_checkLength_df160 D (TT cI cD cB) [.int (0 : Int32), .int (nI k)] [] [] 0 0 := by
  refine st_v (cc := cJ7_checkLength_df160) (maxL := 2) (by decide) rfl (Nat.le_of_ble_eq_true rfl) (fun p e s m av below meth c A Q ls hx hb hml hts hown hA hK hNM hZ hP hD hS hl hfin => ?_)
  have hown : s.vm.findClass RJ7 = some m.cls := hown
  have hl : lv_has ls 2 [(0, .int (0 : Int32)), (1, .int (nI k))] := hl
  refine lv_iload_n hx hb dJ7_checkLength_df160_0 rfl (lv_at hl 1 rfl) ?_
  refine lv_iload_n hx hb dJ7_checkLength_df160_1 rfl (lv_at hl 0 rfl) ?_
  refine lv_icmp_ge (tgt := 37) hx hb dJ7_checkLength_df160_2 (by decide) (fun _ => ?_) (fun q => absurd (tx_le k hk) q)
  exact hfin 37 _ _ _ dJ7_checkLength_df160_37 hP hD hS
theorem mj_J7_copyOfRangeByte_39247_ab : Cond.arrayClass .byte ∈ wsJ7_copyOfRangeByte_39247 := by decide +kernel
theorem mj_J7_copyOfRangeByte_39247_aci : Cond.initialized "java/lang/System" ∈ wsJ7_copyOfRangeByte_39247 := by decide +kernel
theorem mj_J7_copyOfRangeByte_39247_acl : Cond.methodLink RJ7 150 arraycopyName ∈ wsJ7_copyOfRangeByte_39247 := by decide +kernel
theorem mj_J7_copyOfRangeByte_39247_acn : Cond.native arraycopyName ∈ wsJ7_copyOfRangeByte_39247 := by decide +kernel
theorem mj_J7_copyOfRangeByte_39247_acs : Cond.static arraycopyName ∈ wsJ7_copyOfRangeByte_39247 := by decide +kernel
theorem mj_J7_copyOfRangeByte_39247_mmc : Cond.code Lib.Math.min.name Lib.Math.min.code 2 (some .int) ∈ wsJ7_copyOfRangeByte_39247 := by decide +kernel
theorem mj_J7_copyOfRangeByte_39247_mmi : Cond.initialized "java/lang/Math" ∈ wsJ7_copyOfRangeByte_39247 := by decide +kernel
theorem mj_J7_copyOfRangeByte_39247_mml : Cond.methodLink RJ7 304 Lib.Math.min.name ∈ wsJ7_copyOfRangeByte_39247 := by decide +kernel
theorem mj_J7_copyOfRangeByte_39247_mms : Cond.static Lib.Math.min.name ∈ wsJ7_copyOfRangeByte_39247 := by decide +kernel
abbrev rm_J7_copyOfRangeByte_39247 : Room := { frames := 1, cells := 1, slots := 20, locals := 60 }
set_option maxHeartbeats 4000000 in
set_option maxRecDepth 100000 in
theorem j_J7_copyOfRangeByte_39247 (l : Launch) (D : va_G) (cI cD cB : ClassId) (v : Nat) (cap : Nat) (g : Nat → Int32) (k : Nat) (hk : k ≤ 10) (hcap : cap = 16 ∨ cap = 17) (hF : sb_Fit g) : Cg l yJ7_copyOfRangeByte_39247 wsJ7_copyOfRangeByte_39247 rm_J7_copyOfRangeByte_39247 D (TT cI cD cB) [.ref v, .int (0 : Int32), .int (nI k)] [(v, .inl (cB, cap, .inl g))] (fun u : Nat → Nat => (u 0)) (fun u : Nat → Nat => [(v, .inl (cB, cap, .inl g)), (u 0, .inl (cB, k, .inl (va_cpy g (fun _ => 0) ((0 : Int32)).toNatClampNeg ((0 : Int32)).toNatClampNeg ((nI k)).toNatClampNeg)))]) 1 20 := by
  refine st_g (Or.inr ⟨_, rfl⟩) (cc := cJ7_copyOfRangeByte_39247) (maxL := 5) (by decide) rfl (Nat.le_of_ble_eq_true rfl) (fun p e s m av below meth c A Q ls hx hb hml hts hown hin hA hK hNM hZ hP hD hS hl hfin => ?_)
  have hown : s.vm.findClass RJ7 = some m.cls := hown
  have hl : lv_has ls 5 [(0, .ref v), (1, .int (0 : Int32)), (2, .int (nI k))] := hl
  refine lv_iload_n hx hb dJ7_copyOfRangeByte_39247_0 rfl (lv_at hl 1 rfl) ?_
  refine lv_iload_n hx hb dJ7_copyOfRangeByte_39247_1 rfl (lv_at hl 2 rfl) ?_
  refine co_v (W0 := []) (wr := [(v, .inl (cB, cap, .inl g))]) (W1 := []) (ws2 := [(v, .inl (cB, cap, .inl g))]) (va_runS (As := [.int (0 : Int32), .int (nI k)]) (rest := []) ⟨hx, hb, hml, hown, hts⟩ (j_J7_checkLength_df160 l D cI cD cB k hk _) (va_cwS 2 hts gJ7_copyOfRangeByte_39247_J7_checkLength_df160 rfl rfl rfl (by decide +kernel) ⟨Nat.le_of_ble_eq_true rfl, Nat.le_of_ble_eq_true rfl⟩) (my_preS [] hP hK hNM hZ hD hS hA rfl rfl) rfl rfl hl.1 rfl (lv_room (Nat.le_of_ble_eq_true rfl)) dJ7_copyOfRangeByte_39247_2 ⟨Nat.le_of_ble_eq_true rfl, Nat.le_of_ble_eq_true rfl⟩) hP hD hS hA [] [0] [0] rfl rfl rfl rfl rfl (by decide) (fun H locs hP hD hS => ?_)
  have hP : va_P D vwCl [(v, .inl (cB, cap, .inl g))] H := hP
  have hD : va_D A [(v, .inl (cB, cap, .inl g))] := hD
  refine lv_iload_n hx hb dJ7_copyOfRangeByte_39247_5 rfl (lv_at hl 2 rfl) ?_
  refine lv_iload_n hx hb dJ7_copyOfRangeByte_39247_6 rfl (lv_at hl 1 rfl) ?_
  refine lv_isub hx hb dJ7_copyOfRangeByte_39247_7 ?_
  refine lv_istore_n (lv' := [(3, .int ((nI k) - (0 : Int32))), (0, .ref v), (1, .int (0 : Int32)), (2, .int (nI k))]) hx hb dJ7_copyOfRangeByte_39247_8 rfl hl (by decide) rfl (fun ls hl => ?_)
  refine lv_iload_n hx hb dJ7_copyOfRangeByte_39247_9 rfl (lv_at hl 0 rfl) ?_
  refine va_newa (atype := .byte) (ty := .byte) (N' := k) (a0 := (k, .inl (fun _ => 0))) hx hb (hts _ mj_J7_copyOfRangeByte_39247_ab) rfl hK hP hD hS hA (fun _ => rfl) (tx_neg k hk) (tx_sub k hk) (by show k * 1 ≤ _; omega) (Nat.le_of_ble_eq_true rfl) (by show _ + k ≤ 20; omega) dJ7_copyOfRangeByte_39247_10 (fun q0 cA H hK9 hP hD hS => ?_)
  obtain rfl : cB = cA := my_one hK9 (i := 2) (j := 3) rfl rfl rfl
  have hP : va_P D vwCl [(v, .inl (cB, cap, .inl g)), (q0, .inl (cB, k, .inl (fun _ => 0)))] H := hP
  have hD : va_D A [(v, .inl (cB, cap, .inl g)), (q0, .inl (cB, k, .inl (fun _ => 0)))] := hD
  refine W.widen (k := 1) (n := 20) (by omega) (by omega) ?_
  refine lv_astore (lv' := [(4, .ref q0), (3, .int ((nI k) - (0 : Int32))), (0, .ref v), (1, .int (0 : Int32)), (2, .int (nI k))]) hx hb dJ7_copyOfRangeByte_39247_12 hl (by decide) rfl (fun ls hl => ?_)
  refine lv_aload_n hx hb dJ7_copyOfRangeByte_39247_14 rfl (lv_at hl 2 rfl) ?_
  refine lv_iload_n hx hb dJ7_copyOfRangeByte_39247_15 rfl (lv_at hl 3 rfl) ?_
  refine lv_aload hx hb dJ7_copyOfRangeByte_39247_16 (lv_at hl 0 rfl) ?_
  refine lv_iconst (v := (0 : Int32)) hx hb dJ7_copyOfRangeByte_39247_18 (by decide) ?_
  refine lv_aload_n hx hb dJ7_copyOfRangeByte_39247_19 rfl (lv_at hl 2 rfl) ?_
  refine va_alen hx hb hK hP 0 2 rfl rfl (v := Int32.ofNat cap) rfl dJ7_copyOfRangeByte_39247_20 ?_
  refine lv_iload_n hx hb dJ7_copyOfRangeByte_39247_21 rfl (lv_at hl 3 rfl) ?_
  refine lv_isub hx hb dJ7_copyOfRangeByte_39247_22 ?_
  refine lv_iload_n hx hb dJ7_copyOfRangeByte_39247_23 rfl (lv_at hl 1 rfl) ?_
  refine va_mmin hx hb (hml.trans hl.1.symm) hown (hts _ mj_J7_copyOfRangeByte_39247_mml) (hts _ mj_J7_copyOfRangeByte_39247_mms) (hts _ mj_J7_copyOfRangeByte_39247_mmi) (hts _ mj_J7_copyOfRangeByte_39247_mmc) (Nat.le_of_ble_eq_true rfl) (Nat.le_of_ble_eq_true rfl) (Nat.le_of_ble_eq_true rfl) (Nat.le_of_ble_eq_true rfl) dJ7_copyOfRangeByte_39247_24 ?_
  rw [tx_min k cap hk hcap]
  refine va_copyi hx hb (hml.trans hl.1.symm) hown (hts _ mj_J7_copyOfRangeByte_39247_acl) (hts _ mj_J7_copyOfRangeByte_39247_acn) (hts _ mj_J7_copyOfRangeByte_39247_acs) (hts _ mj_J7_copyOfRangeByte_39247_aci) hK hP hD hS 0 1 2 2 rfl rfl rfl rfl rfl (by decide) (by decide) (tx_nn k hk) (by rw [tx_cl k hk]; show 0 + k ≤ cap; omega) (by rw [tx_cl k hk]; show 0 + k ≤ k; omega) (fun i _ => hF _) (Nat.le_of_ble_eq_true rfl) (Nat.le_of_ble_eq_true rfl) dJ7_copyOfRangeByte_39247_27 (fun H locs hP hD hS => ?_)
  have hP : va_P D vwCl [(v, .inl (cB, cap, .inl g)), (q0, .inl (cB, k, .inl (va_cpy g (fun _ => 0) ((0 : Int32)).toNatClampNeg ((0 : Int32)).toNatClampNeg ((nI k)).toNatClampNeg)))] H := hP
  have hD : va_D A [(v, .inl (cB, cap, .inl g)), (q0, .inl (cB, k, .inl (va_cpy g (fun _ => 0) ((0 : Int32)).toNatClampNeg ((0 : Int32)).toNatClampNeg ((nI k)).toNatClampNeg)))] := hD
  refine lv_aload hx hb dJ7_copyOfRangeByte_39247_30 (lv_at hl 0 rfl) ?_
  refine W.widen (k := 1) (n := 20) (by omega) (by omega) ?_
  exact hfin 32 _ _ _ (fun k => ([q0] : List Nat).getD k 0) dJ7_copyOfRangeByte_39247_32 hP hD hS
abbrev rm_J7_copyOfRange_39247 : Room := { frames := 2, cells := 1, slots := 20, locals := 84 }
set_option maxHeartbeats 4000000 in
set_option maxRecDepth 100000 in
theorem j_J7_copyOfRange_39247 (l : Launch) (D : va_G) (cI cD cB : ClassId) (v : Nat) (cap : Nat) (g : Nat → Int32) (k : Nat) (hk : k ≤ 10) (hcap : cap = 16 ∨ cap = 17) (hF : sb_Fit g) : Cg l yJ7_copyOfRange_39247 wsJ7_copyOfRange_39247 rm_J7_copyOfRange_39247 D (TT cI cD cB) [.ref v, .int (0 : Int32), .int (nI k)] [(v, .inl (cB, cap, .inl g))] (fun u : Nat → Nat => (u 0)) (fun u : Nat → Nat => [(v, .inl (cB, cap, .inl g)), (u 0, .inl (cB, k, .inl (va_cpy g (fun _ => 0) ((0 : Int32)).toNatClampNeg ((0 : Int32)).toNatClampNeg ((nI k)).toNatClampNeg)))]) 1 20 := by
  refine st_g (Or.inr ⟨_, rfl⟩) (cc := cJ7_copyOfRange_39247) (maxL := 3) (by decide) rfl (Nat.le_of_ble_eq_true rfl) (fun p e s m av below meth c A Q ls hx hb hml hts hown hin hA hK hNM hZ hP hD hS hl hfin => ?_)
  have hown : s.vm.findClass RJ7 = some m.cls := hown
  have hl : lv_has ls 3 [(0, .ref v), (1, .int (0 : Int32)), (2, .int (nI k))] := hl
  refine lv_iload_n hx hb dJ7_copyOfRange_39247_0 rfl (lv_at hl 1 rfl) ?_
  refine lv_if_ne (tgt := 10) hx hb dJ7_copyOfRange_39247_1 (by decide) (fun q => absurd q (by decide)) (fun _ => ?_)
  refine lv_iload_n hx hb dJ7_copyOfRange_39247_4 rfl (lv_at hl 2 rfl) ?_
  refine lv_aload_n hx hb dJ7_copyOfRange_39247_5 rfl (lv_at hl 0 rfl) ?_
  refine va_alen hx hb hK hP 0 2 rfl rfl (v := Int32.ofNat cap) rfl dJ7_copyOfRange_39247_6 ?_
  refine lv_icmp_eq (tgt := 17) hx hb dJ7_copyOfRange_39247_7 (by decide) (fun q => absurd q (tx_ne k cap hk hcap)) (fun _ => ?_)
  refine lv_aload_n hx hb dJ7_copyOfRange_39247_10 rfl (lv_at hl 0 rfl) ?_
  refine lv_iload_n hx hb dJ7_copyOfRange_39247_11 rfl (lv_at hl 1 rfl) ?_
  refine lv_iload_n hx hb dJ7_copyOfRange_39247_12 rfl (lv_at hl 2 rfl) ?_
  refine co_g (W0 := [(v, .inl (cB, cap, .inl g))]) (wr := []) (W1 := (fun u1 : Nat → Nat => [(v, .inl (cB, cap, .inl g)), ((u1 0), .inl (cB, k, .inl (va_cpy g (fun _ => 0) ((0 : Int32)).toNatClampNeg ((0 : Int32)).toNatClampNeg ((nI k)).toNatClampNeg)))])) (ws2 := (fun u1 : Nat → Nat => [(v, .inl (cB, cap, .inl g)), ((u1 0), .inl (cB, k, .inl (va_cpy g (fun _ => 0) ((0 : Int32)).toNatClampNeg ((0 : Int32)).toNatClampNeg ((nI k)).toNatClampNeg)))])) (r := (fun u1 : Nat → Nat => (u1 0))) (va_runS (As := [.ref v, .int (0 : Int32), .int (nI k)]) (rest := []) ⟨hx, hb, hml, hown, hts⟩ (j_J7_copyOfRangeByte_39247 l D cI cD cB v cap g k hk hcap hF _) (va_cwS 3 hts gJ7_copyOfRange_39247_J7_copyOfRangeByte_39247 rfl rfl rfl (by decide +kernel) ⟨Nat.le_of_ble_eq_true rfl, Nat.le_of_ble_eq_true rfl⟩) (my_preS [0] hP hK hNM hZ hD hS hA rfl rfl) rfl rfl hl.1 rfl (lv_room (Nat.le_of_ble_eq_true rfl)) dJ7_copyOfRange_39247_13 ⟨Nat.le_of_ble_eq_true rfl, Nat.le_of_ble_eq_true rfl⟩) hP hD hS hA [0] [] [0, 1] rfl rfl (fun _ => rfl) rfl rfl (by decide) (fun u1 H locs hP hD hS => ?_)
  have hP : va_P D vwCl [(v, .inl (cB, cap, .inl g)), ((u1 0), .inl (cB, k, .inl (va_cpy g (fun _ => 0) ((0 : Int32)).toNatClampNeg ((0 : Int32)).toNatClampNeg ((nI k)).toNatClampNeg)))] H := hP
  have hD : va_D A [(v, .inl (cB, cap, .inl g)), ((u1 0), .inl (cB, k, .inl (va_cpy g (fun _ => 0) ((0 : Int32)).toNatClampNeg ((0 : Int32)).toNatClampNeg ((nI k)).toNatClampNeg)))] := hD
  refine W.widen (k := 1) (n := 20) (by omega) (by omega) ?_
  refine W.widen (k := 1) (n := 20) (by omega) (by omega) ?_
  exact hfin 16 _ _ _ (fun k => ([(u1 0)] : List Nat).getD k 0) dJ7_copyOfRange_39247_16 hP hD hS
theorem mc_J0_init_db425_J0 : ∀ w ∈ wsJ00, w ∈ wsJ0_init_db425 := by decide +kernel
theorem mj_J0_init_db425_f15 : Cond.fieldLink RJ0 15 "java/lang/String" "coder" "B" ∈ wsJ0_init_db425 := by decide +kernel
theorem mj_J0_init_db425_f9 : Cond.fieldLink RJ0 9 "java/lang/String" "value" "[B" ∈ wsJ0_init_db425 := by decide +kernel
theorem mj_J0_init_db425_oc : Cond.code objectInit ⟨#[0xb1]⟩ 1 none ∈ wsJ0_init_db425 := by decide +kernel
theorem mj_J0_init_db425_oi : Cond.methodLink RJ0 1 objectInit ∈ wsJ0_init_db425 := by decide +kernel
theorem mj_J0_init_db425_oo : Cond.instanceMethod objectInit ∈ wsJ0_init_db425 := by decide +kernel
theorem mj_J0_init_db425_ovJ5_length_8abf5 : Cond.code yJ5_length_8abf5 cJ5_length_8abf5 1 (some .int) ∈ wsJ0_init_db425 := by decide +kernel
abbrev rm_J0_init_db425 : Room := { frames := 3, cells := 1, slots := 20, locals := 106 }
set_option maxHeartbeats 4000000 in
set_option maxRecDepth 100000 in
theorem j_J0_init_db425 (l : Launch) (D : va_G) (cI cD cB : ClassId) (q : Nat) (a : Nat) (v : Nat) (ml : Int32) (cap : Nat) (g : Nat → Int32) (k : Nat) (hk : k ≤ 10) (hcap : cap = 16 ∨ cap = 17) (hF : sb_Fit g) : Ck l yJ0_init_db425 wsJ0_init_db425 rm_J0_init_db425 D (TT cI cD cB) [.ref q, .ref a, .null] [(q, .inr (0, [.null, .int 0, .int 0, .int 0])), (a, .inr (1, [.ref v, .int (0 : Int32), .int ml, .int (nI k)])), (v, .inl (cB, cap, .inl g))] (fun u : Nat → Nat => [(q, .inr (0, [.ref (u 0), .int (0 : Int32), .int 0, .int 0])), (a, .inr (1, [.ref v, .int (0 : Int32), .int ml, .int (nI k)])), (v, .inl (cB, cap, .inl g)), (u 0, .inl (cB, k, .inl (va_cpy g (fun _ => 0) ((0 : Int32)).toNatClampNeg ((0 : Int32)).toNatClampNeg ((nI k)).toNatClampNeg)))]) 1 20 := by
  refine st_k (cc := cJ0_init_db425) (maxL := 5) (by decide) rfl (Nat.le_of_ble_eq_true rfl) (fun p e s m av below meth c A Q ls hx hb hml hts hown hin hA hK hNM hZ hP hD hS hl hfin => ?_)
  have hown : s.vm.findClass RJ0 = some m.cls := hown
  have hl : lv_has ls 5 [(0, .ref q), (1, .ref a), (2, .null)] := hl
  refine lv_aload_n hx hb dJ0_init_db425_0 rfl (lv_at hl 0 rfl) ?_
  refine W.objInit hx hb hown (hts _ mj_J0_init_db425_oi) (hts _ mj_J0_init_db425_oo) (hts _ mj_J0_init_db425_oc) rfl (by rw [hml]; exact hl.1) rfl dJ0_init_db425_1 (Nat.le_of_ble_eq_true rfl) (Nat.le_of_ble_eq_true rfl) ?_
  refine W.eq (g2 := F0 m 4 ls []) rfl ?_
  refine lv_aload_n hx hb dJ0_init_db425_4 rfl (lv_at hl 1 rfl) ?_
  refine co_g (W0 := [(a, .inr (1, [.ref v, .int (0 : Int32), .int ml, .int (nI k)]))]) (wr := [(q, .inr (0, [.null, .int 0, .int 0, .int 0])), (v, .inl (cB, cap, .inl g))]) (W1 := (fun u1 : Nat → Nat => [(a, .inr (1, [.ref v, .int (0 : Int32), .int ml, .int (nI k)]))])) (ws2 := (fun u1 : Nat → Nat => [(q, .inr (0, [.null, .int 0, .int 0, .int 0])), (a, .inr (1, [.ref v, .int (0 : Int32), .int ml, .int (nI k)])), (v, .inl (cB, cap, .inl g))])) (r := (fun u1 : Nat → Nat => v)) (va_runU (C := RJ4) (As := []) (rest := []) ⟨hx, hb, hml, hown, hts⟩ (j_J5_getValue_6d5f1 l D cI cD cB a v ml (nI k) _) (va_cwU 0 hts gJ0_init_db425_J5_getValue_6d5f1_u552J4 rfl rfl rfl rfl ⟨by decide, by decide, by decide +kernel⟩ ⟨Nat.le_of_ble_eq_true rfl, Nat.le_of_ble_eq_true rfl⟩) (my_preV (q := (RJ4, TJ4, 4)) (ci := 1) (q0 := 1) [1] hP hK hNM hZ hD hS hA rfl rfl rfl rfl) rfl rfl hl.1 rfl (lv_room (Nat.le_of_ble_eq_true rfl)) dJ0_init_db425_5 ⟨Nat.le_of_ble_eq_true rfl, Nat.le_of_ble_eq_true rfl⟩) hP hD hS hA [1] [0, 2] [0, 2, 1] rfl rfl (fun _ => rfl) rfl rfl (by decide) (fun u1 H locs hP hD hS => ?_)
  have hP : va_P D vwCl [(q, .inr (0, [.null, .int 0, .int 0, .int 0])), (a, .inr (1, [.ref v, .int (0 : Int32), .int ml, .int (nI k)])), (v, .inl (cB, cap, .inl g))] H := hP
  have hD : va_D A [(q, .inr (0, [.null, .int 0, .int 0, .int 0])), (a, .inr (1, [.ref v, .int (0 : Int32), .int ml, .int (nI k)])), (v, .inl (cB, cap, .inl g))] := hD
  refine lv_astore_n (lv' := [(3, .ref v), (0, .ref q), (1, .ref a), (2, .null)]) hx hb dJ0_init_db425_8 rfl hl (by decide) rfl (fun ls hl => ?_)
  refine lv_aload_n hx hb dJ0_init_db425_9 rfl (lv_at hl 2 rfl) ?_
  refine co_i (W0 := [(a, .inr (1, [.ref v, .int (0 : Int32), .int ml, .int (nI k)]))]) (wr := [(q, .inr (0, [.null, .int 0, .int 0, .int 0])), (v, .inl (cB, cap, .inl g))]) (W1 := [(a, .inr (1, [.ref v, .int (0 : Int32), .int ml, .int (nI k)]))]) (ws2 := [(q, .inr (0, [.null, .int 0, .int 0, .int 0])), (a, .inr (1, [.ref v, .int (0 : Int32), .int ml, .int (nI k)])), (v, .inl (cB, cap, .inl g))]) (va_runU (C := RJ4) (As := []) (rest := []) ⟨hx, hb, hml, hown, hts⟩ (j_J4_length_8abf5 l D cI cD cB a v ml (nI k) _) (va_cwO 0 hts gJ0_init_db425_J4_length_8abf5_u549J4 rfl rfl rfl mj_J0_init_db425_ovJ5_length_8abf5 ⟨by decide, by decide, by decide +kernel⟩ ⟨Nat.le_of_ble_eq_true rfl, Nat.le_of_ble_eq_true rfl⟩) (my_preV (q := (RJ4, TJ4, 4)) (ci := 1) (q0 := 1) [1] hP hK hNM hZ hD hS hA rfl rfl rfl rfl) rfl rfl hl.1 rfl (lv_room (Nat.le_of_ble_eq_true rfl)) dJ0_init_db425_10 ⟨Nat.le_of_ble_eq_true rfl, Nat.le_of_ble_eq_true rfl⟩) hP hD hS hA [1] [0, 2] [0, 2, 1] rfl rfl rfl rfl rfl (by decide) (fun H locs hP hD hS => ?_)
  have hP : va_P D vwCl [(q, .inr (0, [.null, .int 0, .int 0, .int 0])), (a, .inr (1, [.ref v, .int (0 : Int32), .int ml, .int (nI k)])), (v, .inl (cB, cap, .inl g))] H := hP
  have hD : va_D A [(q, .inr (0, [.null, .int 0, .int 0, .int 0])), (a, .inr (1, [.ref v, .int (0 : Int32), .int ml, .int (nI k)])), (v, .inl (cB, cap, .inl g))] := hD
  refine lv_istore (lv' := [(4, .int (nI k)), (3, .ref v), (0, .ref q), (1, .ref a), (2, .null)]) hx hb dJ0_init_db425_13 hl (by decide) rfl (fun ls hl => ?_)
  refine lv_aload_n hx hb dJ0_init_db425_15 rfl (lv_at hl 3 rfl) ?_
  refine co_i (W0 := [(a, .inr (1, [.ref v, .int (0 : Int32), .int ml, .int (nI k)]))]) (wr := [(q, .inr (0, [.null, .int 0, .int 0, .int 0])), (v, .inl (cB, cap, .inl g))]) (W1 := [(a, .inr (1, [.ref v, .int (0 : Int32), .int ml, .int (nI k)]))]) (ws2 := [(q, .inr (0, [.null, .int 0, .int 0, .int 0])), (a, .inr (1, [.ref v, .int (0 : Int32), .int ml, .int (nI k)])), (v, .inl (cB, cap, .inl g))]) (va_runU (C := RJ4) (As := []) (rest := []) ⟨hx, hb, hml, hown, hts⟩ (j_J5_isLatin1_aae02 l D cI cD cB a v ml (nI k) _) (va_cwU 0 hts gJ0_init_db425_J5_isLatin1_aae02_u1047J4 rfl rfl rfl rfl ⟨by decide, by decide, by decide +kernel⟩ ⟨Nat.le_of_ble_eq_true rfl, Nat.le_of_ble_eq_true rfl⟩) (my_preV (q := (RJ4, TJ4, 4)) (ci := 1) (q0 := 1) [1] hP hK hNM hZ hD hS hA rfl rfl rfl rfl) rfl rfl hl.1 rfl (lv_room (Nat.le_of_ble_eq_true rfl)) dJ0_init_db425_16 ⟨Nat.le_of_ble_eq_true rfl, Nat.le_of_ble_eq_true rfl⟩) hP hD hS hA [1] [0, 2] [0, 2, 1] rfl rfl rfl rfl rfl (by decide) (fun H locs hP hD hS => ?_)
  have hP : va_P D vwCl [(q, .inr (0, [.null, .int 0, .int 0, .int 0])), (a, .inr (1, [.ref v, .int (0 : Int32), .int ml, .int (nI k)])), (v, .inl (cB, cap, .inl g))] H := hP
  have hD : va_D A [(q, .inr (0, [.null, .int 0, .int 0, .int 0])), (a, .inr (1, [.ref v, .int (0 : Int32), .int ml, .int (nI k)])), (v, .inl (cB, cap, .inl g))] := hD
  refine lv_if_eq (tgt := 41) hx hb dJ0_init_db425_19 (by decide) (fun q => absurd q (by decide)) (fun _ => ?_)
  refine lv_aload_n hx hb dJ0_init_db425_22 rfl (lv_at hl 2 rfl) ?_
  refine lv_iconst (v := (0 : Int32)) hx hb dJ0_init_db425_23 (by decide) ?_
  refine va_putF (D := D) (ci := 0) (v := .int (0 : Int32)) (ty := .byte) (C := RJ0) (T := TJ0) (N := 4) hx hb hts mc_J0_init_db425_J0 tyJ0 tyJ0_ok nmJ0 hown hK hP hD hS 0 rfl rfl 1 (by decide) (hts _ mj_J0_init_db425_f15) (fun _ h9 => h9) rfl hin rfl (tyJ0_ok 1 (by decide)) rfl rfl (Nat.le_of_ble_eq_true rfl) dJ0_init_db425_24 (fun H locs hP hD hS => ?_)
  have hP : va_P D vwCl [(q, .inr (0, [.null, .int (0 : Int32), .int 0, .int 0])), (a, .inr (1, [.ref v, .int (0 : Int32), .int ml, .int (nI k)])), (v, .inl (cB, cap, .inl g))] H := hP
  have hD : va_D A [(q, .inr (0, [.null, .int (0 : Int32), .int 0, .int 0])), (a, .inr (1, [.ref v, .int (0 : Int32), .int ml, .int (nI k)])), (v, .inl (cB, cap, .inl g))] := hD
  refine lv_aload_n hx hb dJ0_init_db425_27 rfl (lv_at hl 2 rfl) ?_
  refine lv_aload_n hx hb dJ0_init_db425_28 rfl (lv_at hl 1 rfl) ?_
  refine lv_iconst (v := (0 : Int32)) hx hb dJ0_init_db425_29 (by decide) ?_
  refine lv_iload hx hb dJ0_init_db425_30 (lv_at hl 0 rfl) ?_
  refine co_g (W0 := [(v, .inl (cB, cap, .inl g))]) (wr := [(q, .inr (0, [.null, .int (0 : Int32), .int 0, .int 0])), (a, .inr (1, [.ref v, .int (0 : Int32), .int ml, .int (nI k)]))]) (W1 := (fun u2 : Nat → Nat => [(v, .inl (cB, cap, .inl g)), ((u2 0), .inl (cB, k, .inl (va_cpy g (fun _ => 0) ((0 : Int32)).toNatClampNeg ((0 : Int32)).toNatClampNeg ((nI k)).toNatClampNeg)))])) (ws2 := (fun u2 : Nat → Nat => [(q, .inr (0, [.null, .int (0 : Int32), .int 0, .int 0])), (a, .inr (1, [.ref v, .int (0 : Int32), .int ml, .int (nI k)])), (v, .inl (cB, cap, .inl g)), ((u2 0), .inl (cB, k, .inl (va_cpy g (fun _ => 0) ((0 : Int32)).toNatClampNeg ((0 : Int32)).toNatClampNeg ((nI k)).toNatClampNeg)))])) (r := (fun u2 : Nat → Nat => (u2 0))) (va_runS (As := [.ref v, .int (0 : Int32), .int (nI k)]) (rest := [.ref q]) ⟨hx, hb, hml, hown, hts⟩ (j_J7_copyOfRange_39247 l D cI cD cB v cap g k hk hcap hF _) (va_cwS 3 hts gJ0_init_db425_J7_copyOfRange_39247 rfl rfl rfl (by decide +kernel) ⟨Nat.le_of_ble_eq_true rfl, Nat.le_of_ble_eq_true rfl⟩) (my_preS [2] hP hK hNM hZ hD hS hA rfl rfl) rfl rfl hl.1 rfl (lv_room (Nat.le_of_ble_eq_true rfl)) dJ0_init_db425_32 ⟨Nat.le_of_ble_eq_true rfl, Nat.le_of_ble_eq_true rfl⟩) hP hD hS hA [2] [0, 1] [0, 1, 2, 3] rfl rfl (fun _ => rfl) rfl rfl (by decide) (fun u2 H locs hP hD hS => ?_)
  have hP : va_P D vwCl [(q, .inr (0, [.null, .int (0 : Int32), .int 0, .int 0])), (a, .inr (1, [.ref v, .int (0 : Int32), .int ml, .int (nI k)])), (v, .inl (cB, cap, .inl g)), ((u2 0), .inl (cB, k, .inl (va_cpy g (fun _ => 0) ((0 : Int32)).toNatClampNeg ((0 : Int32)).toNatClampNeg ((nI k)).toNatClampNeg)))] H := hP
  have hD : va_D A [(q, .inr (0, [.null, .int (0 : Int32), .int 0, .int 0])), (a, .inr (1, [.ref v, .int (0 : Int32), .int ml, .int (nI k)])), (v, .inl (cB, cap, .inl g)), ((u2 0), .inl (cB, k, .inl (va_cpy g (fun _ => 0) ((0 : Int32)).toNatClampNeg ((0 : Int32)).toNatClampNeg ((nI k)).toNatClampNeg)))] := hD
  refine W.widen (k := 1) (n := 20) (by omega) (by omega) ?_
  refine va_putF (D := D) (ci := 0) (v := .ref (u2 0)) (ty := .array .byte) (C := RJ0) (T := TJ0) (N := 4) hx hb hts mc_J0_init_db425_J0 tyJ0 tyJ0_ok nmJ0 hown hK hP hD hS 0 rfl rfl 0 (by decide) (hts _ mj_J0_init_db425_f9) (fun _ h9 => h9) rfl hin rfl (tyJ0_ok 0 (by decide)) rfl rfl (Nat.le_of_ble_eq_true rfl) dJ0_init_db425_35 (fun H locs hP hD hS => ?_)
  have hP : va_P D vwCl [(q, .inr (0, [.ref (u2 0), .int (0 : Int32), .int 0, .int 0])), (a, .inr (1, [.ref v, .int (0 : Int32), .int ml, .int (nI k)])), (v, .inl (cB, cap, .inl g)), ((u2 0), .inl (cB, k, .inl (va_cpy g (fun _ => 0) ((0 : Int32)).toNatClampNeg ((0 : Int32)).toNatClampNeg ((nI k)).toNatClampNeg)))] H := hP
  have hD : va_D A [(q, .inr (0, [.ref (u2 0), .int (0 : Int32), .int 0, .int 0])), (a, .inr (1, [.ref v, .int (0 : Int32), .int ml, .int (nI k)])), (v, .inl (cB, cap, .inl g)), ((u2 0), .inl (cB, k, .inl (va_cpy g (fun _ => 0) ((0 : Int32)).toNatClampNeg ((0 : Int32)).toNatClampNeg ((nI k)).toNatClampNeg)))] := hD
  refine lv_goto (tgt := 97) hx hb dJ0_init_db425_38 (by decide) ?_
  refine W.widen (k := 1) (n := 20) (by omega) (by omega) ?_
  exact hfin 97 _ _ _ (fun k => ([(u2 0)] : List Nat).getD k 0) dJ0_init_db425_97 hP hD hS
theorem mj_J0_init_81219_imJ0_init_db425 : Cond.instanceMethod yJ0_init_db425 ∈ wsJ0_init_81219 := by decide +kernel
theorem mj_J0_init_81219_itJ0 : Cond.initialized RJ0 ∈ wsJ0_init_81219 := by decide +kernel
theorem mj_J0_init_81219_mlJ0_init_db425 : Cond.methodLink RJ0 489 yJ0_init_db425 ∈ wsJ0_init_81219 := by decide +kernel
abbrev rm_J0_init_81219 : Room := { frames := 4, cells := 1, slots := 20, locals := 130 }
set_option maxHeartbeats 4000000 in
set_option maxRecDepth 100000 in
theorem j_J0_init_81219 (l : Launch) (D : va_G) (cI cD cB : ClassId) (q : Nat) (a : Nat) (v : Nat) (ml : Int32) (cap : Nat) (g : Nat → Int32) (k : Nat) (hk : k ≤ 10) (hcap : cap = 16 ∨ cap = 17) (hF : sb_Fit g) : Ck l yJ0_init_81219 wsJ0_init_81219 rm_J0_init_81219 D (TT cI cD cB) [.ref q, .ref a] [(q, .inr (0, [.null, .int 0, .int 0, .int 0])), (a, .inr (1, [.ref v, .int (0 : Int32), .int ml, .int (nI k)])), (v, .inl (cB, cap, .inl g))] (fun u : Nat → Nat => [(q, .inr (0, [.ref (u 0), .int (0 : Int32), .int 0, .int 0])), (a, .inr (1, [.ref v, .int (0 : Int32), .int ml, .int (nI k)])), (v, .inl (cB, cap, .inl g)), (u 0, .inl (cB, k, .inl (va_cpy g (fun _ => 0) ((0 : Int32)).toNatClampNeg ((0 : Int32)).toNatClampNeg ((nI k)).toNatClampNeg)))]) 1 20 := by
  refine st_k (cc := cJ0_init_81219) (maxL := 2) (by decide) rfl (Nat.le_of_ble_eq_true rfl) (fun p e s m av below meth c A Q ls hx hb hml hts hown hin hA hK hNM hZ hP hD hS hl hfin => ?_)
  have hown : s.vm.findClass RJ0 = some m.cls := hown
  have hl : lv_has ls 2 [(0, .ref q), (1, .ref a)] := hl
  refine lv_aload_n hx hb dJ0_init_81219_0 rfl (lv_at hl 0 rfl) ?_
  refine lv_aload_n hx hb dJ0_init_81219_1 rfl (lv_at hl 1 rfl) ?_
  refine lv_null hx hb dJ0_init_81219_2 ?_
  refine co_k (W0 := [(q, .inr (0, [.null, .int 0, .int 0, .int 0])), (a, .inr (1, [.ref v, .int (0 : Int32), .int ml, .int (nI k)])), (v, .inl (cB, cap, .inl g))]) (wr := []) (W1 := (fun u1 : Nat → Nat => [(q, .inr (0, [.ref (u1 0), .int (0 : Int32), .int 0, .int 0])), (a, .inr (1, [.ref v, .int (0 : Int32), .int ml, .int (nI k)])), (v, .inl (cB, cap, .inl g)), ((u1 0), .inl (cB, k, .inl (va_cpy g (fun _ => 0) ((0 : Int32)).toNatClampNeg ((0 : Int32)).toNatClampNeg ((nI k)).toNatClampNeg)))])) (ws2 := (fun u1 : Nat → Nat => [(q, .inr (0, [.ref (u1 0), .int (0 : Int32), .int 0, .int 0])), (a, .inr (1, [.ref v, .int (0 : Int32), .int ml, .int (nI k)])), (v, .inl (cB, cap, .inl g)), ((u1 0), .inl (cB, k, .inl (va_cpy g (fun _ => 0) ((0 : Int32)).toNatClampNeg ((0 : Int32)).toNatClampNeg ((nI k)).toNatClampNeg)))])) (va_runI (As := [.ref a, .null]) (rest := []) ⟨hx, hb, hml, hown, hts⟩ (j_J0_init_db425 l D cI cD cB q a v ml cap g k hk hcap hF _) (cwI 2 hts gJ0_init_81219_J0_init_db425 rfl rfl rfl (hts _ mj_J0_init_81219_itJ0) (hts _ mj_J0_init_81219_mlJ0_init_db425) (hts _ mj_J0_init_81219_imJ0_init_db425) rfl (by decide +kernel) ⟨Nat.le_of_ble_eq_true rfl, Nat.le_of_ble_eq_true rfl⟩) (my_preS [0, 1, 2] hP hK hNM hZ hD hS hA rfl rfl) rfl rfl hl.1 rfl (lv_room (Nat.le_of_ble_eq_true rfl)) dJ0_init_81219_3 ⟨Nat.le_of_ble_eq_true rfl, Nat.le_of_ble_eq_true rfl⟩) hP hD hS hA [0, 1, 2] [] [0, 1, 2, 3] rfl rfl (fun _ => rfl) rfl rfl (by decide) (fun u1 H locs hP hD hS => ?_)
  have hP : va_P D vwCl [(q, .inr (0, [.ref (u1 0), .int (0 : Int32), .int 0, .int 0])), (a, .inr (1, [.ref v, .int (0 : Int32), .int ml, .int (nI k)])), (v, .inl (cB, cap, .inl g)), ((u1 0), .inl (cB, k, .inl (va_cpy g (fun _ => 0) ((0 : Int32)).toNatClampNeg ((0 : Int32)).toNatClampNeg ((nI k)).toNatClampNeg)))] H := hP
  have hD : va_D A [(q, .inr (0, [.ref (u1 0), .int (0 : Int32), .int 0, .int 0])), (a, .inr (1, [.ref v, .int (0 : Int32), .int ml, .int (nI k)])), (v, .inl (cB, cap, .inl g)), ((u1 0), .inl (cB, k, .inl (va_cpy g (fun _ => 0) ((0 : Int32)).toNatClampNeg ((0 : Int32)).toNatClampNeg ((nI k)).toNatClampNeg)))] := hD
  refine W.widen (k := 1) (n := 20) (by omega) (by omega) ?_
  refine W.widen (k := 1) (n := 20) (by omega) (by omega) ?_
  exact hfin 6 _ _ _ (fun k => ([(u1 0)] : List Nat).getD k 0) dJ0_init_81219_6 hP hD hS
theorem mc_J4_toString_0e30d_J0 : ∀ w ∈ wsJ00, w ∈ wsJ4_toString_0e30d := by decide +kernel
theorem mj_J4_toString_0e30d_clJ0 : Cond.classLink RJ4 18 RJ0 ∈ wsJ4_toString_0e30d := by decide +kernel
theorem mj_J4_toString_0e30d_imJ0_init_81219 : Cond.instanceMethod yJ0_init_81219 ∈ wsJ4_toString_0e30d := by decide +kernel
theorem mj_J4_toString_0e30d_inJ0 : Cond.instantiable RJ0 4 ∈ wsJ4_toString_0e30d := by decide +kernel
theorem mj_J4_toString_0e30d_itJ0 : Cond.initialized RJ0 ∈ wsJ4_toString_0e30d := by decide +kernel
theorem mj_J4_toString_0e30d_mlJ0_init_81219 : Cond.methodLink RJ4 137 yJ0_init_81219 ∈ wsJ4_toString_0e30d := by decide +kernel
abbrev rm_J4_toString_0e30d : Room := { frames := 5, cells := 2, slots := 24, locals := 151 }
set_option maxHeartbeats 4000000 in
set_option maxRecDepth 100000 in
theorem j_J4_toString_0e30d (l : Launch) (D : va_G) (cI cD cB : ClassId) (a : Nat) (v : Nat) (ml : Int32) (cap : Nat) (g : Nat → Int32) (k : Nat) (hk : k ≤ 10) (hcap : cap = 16 ∨ cap = 17) (hF : sb_Fit g) : Cg l yJ4_toString_0e30d wsJ4_toString_0e30d rm_J4_toString_0e30d D (TT cI cD cB) [.ref a] [(a, .inr (1, [.ref v, .int (0 : Int32), .int ml, .int (nI k)])), (v, .inl (cB, cap, .inl g))] (fun u : Nat → Nat => (u 0)) (fun u : Nat → Nat => [(a, .inr (1, [.ref v, .int (0 : Int32), .int ml, .int (nI k)])), (v, .inl (cB, cap, .inl g)), (u 0, .inr (0, [.ref (u 1), .int (0 : Int32), .int 0, .int 0])), (u 1, .inl (cB, k, .inl (va_cpy g (fun _ => 0) ((0 : Int32)).toNatClampNeg ((0 : Int32)).toNatClampNeg ((nI k)).toNatClampNeg)))]) 2 24 := by
  refine st_g (Or.inl ⟨_, rfl⟩) (cc := cJ4_toString_0e30d) (maxL := 1) (by decide) rfl (Nat.le_of_ble_eq_true rfl) (fun p e s m av below meth c A Q ls hx hb hml hts hown hin hA hK hNM hZ hP hD hS hl hfin => ?_)
  have hown : s.vm.findClass RJ4 = some m.cls := hown
  have hl : lv_has ls 1 [(0, .ref a)] := hl
  refine va_new (ci := 0) (fs := [.null, .int 0, .int 0, .int 0]) (C := RJ0) (T := TJ0) (N := 4) hx hb hts mc_J4_toString_0e30d_J0 tyJ0 tyJ0_ok hown (hts _ mj_J4_toString_0e30d_clJ0) (hts _ mj_J4_toString_0e30d_inJ0) (hts _ mj_J4_toString_0e30d_itJ0) hK hP hD hS hA rfl (fun j hj => by rcases (show j = 0 ∨ j = 1 ∨ j = 2 ∨ j = 3 by omega) with rfl | rfl | rfl | rfl <;> rfl) (Nat.le_of_ble_eq_true rfl) (Nat.le_of_ble_eq_true rfl) dJ4_toString_0e30d_0 (fun q0 H hP hD hS => ?_)
  have hP : va_P D vwCl [(a, .inr (1, [.ref v, .int (0 : Int32), .int ml, .int (nI k)])), (v, .inl (cB, cap, .inl g)), (q0, .inr (0, [.null, .int 0, .int 0, .int 0]))] H := hP
  have hD : va_D A [(a, .inr (1, [.ref v, .int (0 : Int32), .int ml, .int (nI k)])), (v, .inl (cB, cap, .inl g)), (q0, .inr (0, [.null, .int 0, .int 0, .int 0]))] := hD
  refine W.widen (k := 1) (n := 4) (by omega) (by omega) ?_
  refine lv_dup hx hb dJ4_toString_0e30d_3 rfl ?_
  refine lv_aload_n hx hb dJ4_toString_0e30d_4 rfl (lv_at hl 0 rfl) ?_
  refine co_k (W0 := [(q0, .inr (0, [.null, .int 0, .int 0, .int 0])), (a, .inr (1, [.ref v, .int (0 : Int32), .int ml, .int (nI k)])), (v, .inl (cB, cap, .inl g))]) (wr := []) (W1 := (fun u1 : Nat → Nat => [(q0, .inr (0, [.ref (u1 0), .int (0 : Int32), .int 0, .int 0])), (a, .inr (1, [.ref v, .int (0 : Int32), .int ml, .int (nI k)])), (v, .inl (cB, cap, .inl g)), ((u1 0), .inl (cB, k, .inl (va_cpy g (fun _ => 0) ((0 : Int32)).toNatClampNeg ((0 : Int32)).toNatClampNeg ((nI k)).toNatClampNeg)))])) (ws2 := (fun u1 : Nat → Nat => [(a, .inr (1, [.ref v, .int (0 : Int32), .int ml, .int (nI k)])), (v, .inl (cB, cap, .inl g)), (q0, .inr (0, [.ref (u1 0), .int (0 : Int32), .int 0, .int 0])), ((u1 0), .inl (cB, k, .inl (va_cpy g (fun _ => 0) ((0 : Int32)).toNatClampNeg ((0 : Int32)).toNatClampNeg ((nI k)).toNatClampNeg)))])) (va_runI (As := [.ref a]) (rest := [.ref q0]) ⟨hx, hb, hml, hown, hts⟩ (j_J0_init_81219 l D cI cD cB q0 a v ml cap g k hk hcap hF _) (cwI 1 hts gJ4_toString_0e30d_J0_init_81219 rfl rfl rfl (hts _ mj_J4_toString_0e30d_itJ0) (hts _ mj_J4_toString_0e30d_mlJ0_init_81219) (hts _ mj_J4_toString_0e30d_imJ0_init_81219) rfl (by decide +kernel) ⟨Nat.le_of_ble_eq_true rfl, Nat.le_of_ble_eq_true rfl⟩) (my_preS [2, 0, 1] hP hK hNM hZ hD hS hA rfl rfl) rfl rfl hl.1 rfl (lv_room (Nat.le_of_ble_eq_true rfl)) dJ4_toString_0e30d_5 ⟨Nat.le_of_ble_eq_true rfl, Nat.le_of_ble_eq_true rfl⟩) hP hD hS hA [2, 0, 1] [] [1, 2, 0, 3] rfl rfl (fun _ => rfl) rfl rfl (by decide) (fun u1 H locs hP hD hS => ?_)
  have hP : va_P D vwCl [(a, .inr (1, [.ref v, .int (0 : Int32), .int ml, .int (nI k)])), (v, .inl (cB, cap, .inl g)), (q0, .inr (0, [.ref (u1 0), .int (0 : Int32), .int 0, .int 0])), ((u1 0), .inl (cB, k, .inl (va_cpy g (fun _ => 0) ((0 : Int32)).toNatClampNeg ((0 : Int32)).toNatClampNeg ((nI k)).toNatClampNeg)))] H := hP
  have hD : va_D A [(a, .inr (1, [.ref v, .int (0 : Int32), .int ml, .int (nI k)])), (v, .inl (cB, cap, .inl g)), (q0, .inr (0, [.ref (u1 0), .int (0 : Int32), .int 0, .int 0])), ((u1 0), .inl (cB, k, .inl (va_cpy g (fun _ => 0) ((0 : Int32)).toNatClampNeg ((0 : Int32)).toNatClampNeg ((nI k)).toNatClampNeg)))] := hD
  refine W.widen (k := 2) (n := 24) (by omega) (by omega) ?_
  refine W.widen (k := 2) (n := 24) (by omega) (by omega) ?_
  exact hfin 8 _ _ _ (fun k => ([q0, (u1 0)] : List Nat).getD k 0) dJ4_toString_0e30d_8 hP hD hS
abbrev rm_J1_equals_b5fdf : Room := { frames := 0, cells := 0, slots := 0, locals := 0 }
set_option maxHeartbeats 4000000 in
set_option maxRecDepth 100000 in
theorem j_J1_equals_b5fdf (l : Launch) (D : va_G) (cI cD cB : ClassId) (v1 : Nat) (v2 : Nat) (k1 : Nat) (k2 : Nat) (g1 : Nat → Int32) (g2 : Nat → Int32) (hk : k1 ≤ 10) (hkk : k1 = k2) (he : ∀ i, i < k1 → g1 i = g2 i) : Ci l yJ1_equals_b5fdf wsJ1_equals_b5fdf rm_J1_equals_b5fdf D (TT cI cD cB) [.ref v1, .ref v2] [(v1, .inl (cB, k1, .inl g1)), (v2, .inl (cB, k2, .inl g2))] [(v1, .inl (cB, k1, .inl g1)), (v2, .inl (cB, k2, .inl g2))] (1 : Int32) 0 0 := by
  subst hkk
  refine st_i (cc := cJ1_equals_b5fdf) (maxL := 3) (by decide) rfl (Nat.le_of_ble_eq_true rfl) (fun p e s m av below meth c A Q ls hx hb hml hts hown hA hK hNM hZ hP hD hS hl hfin => ?_)
  have hl : lv_has ls 3 [(0, .ref v1), (1, .ref v2)] := hl
  have LOOP : ∀ (d i : Nat) (ls : Array Slot), i + d = k1 → lv_has ls 3 [(2, .int (nI i)), (0, .ref v1), (1, .ref v2)] → W p l e rm_J1_equals_b5fdf s m av below meth c s.heap [] 0 0 Q (F0 m 9 ls []) := by
    intro d
    induction d with
    | zero =>
      intro i ls hi hl
      refine lv_iload_n hx hb dJ1_equals_b5fdf_9 rfl (lv_at hl 0 rfl) ?_
      refine lv_aload_n hx hb dJ1_equals_b5fdf_10 rfl (lv_at hl 1 rfl) ?_
      refine va_alen hx hb hK hP 0 2 rfl rfl (v := Int32.ofNat k1) rfl dJ1_equals_b5fdf_11 ?_
      refine lv_icmp_ge (tgt := 32) hx hb dJ1_equals_b5fdf_12 (by decide) (fun _ => ?_) (fun q => absurd (show Int32.ofNat k1 ≤ nI i by rw [show i = k1 by omega]; exact Int32.le_refl _) q)
      refine lv_iconst (v := (1 : Int32)) hx hb dJ1_equals_b5fdf_32 (by decide) ?_
      exact hfin 33 _ _ _ dJ1_equals_b5fdf_33 rfl hP hD hS
    | succ d ih =>
      intro i ls hi hl
      refine lv_iload_n hx hb dJ1_equals_b5fdf_9 rfl (lv_at hl 0 rfl) ?_
      refine lv_aload_n hx hb dJ1_equals_b5fdf_10 rfl (lv_at hl 1 rfl) ?_
      refine va_alen hx hb hK hP 0 2 rfl rfl (v := Int32.ofNat k1) rfl dJ1_equals_b5fdf_11 ?_
      refine lv_icmp_ge (tgt := 32) hx hb dJ1_equals_b5fdf_12 (by decide) (fun q => absurd q (nI_ge (show i < k1 by omega) (by omega))) (fun _ => ?_)
      refine lv_aload_n hx hb dJ1_equals_b5fdf_15 rfl (lv_at hl 1 rfl) ?_
      refine lv_iload_n hx hb dJ1_equals_b5fdf_16 rfl (lv_at hl 0 rfl) ?_
      refine va_bald hx hb hK hP 0 2 rfl rfl (nI_in (show i < k1 by omega) (by omega)) dJ1_equals_b5fdf_17 ?_
      refine lv_aload_n hx hb dJ1_equals_b5fdf_18 rfl (lv_at hl 2 rfl) ?_
      refine lv_iload_n hx hb dJ1_equals_b5fdf_19 rfl (lv_at hl 0 rfl) ?_
      refine va_bald hx hb hK hP 1 2 rfl rfl (nI_in (show i < k1 by omega) (by omega)) dJ1_equals_b5fdf_20 ?_
      have hc : (nI i).toNatClampNeg = i := nI_clamp (by omega)
      refine lv_icmp_eq (tgt := 26) hx hb dJ1_equals_b5fdf_21 (by decide) (fun _ => ?_) (fun q => absurd (show g1 (nI i).toNatClampNeg = g2 (nI i).toNatClampNeg by rw [hc]; exact he i (by omega)) q)
      refine lv_iinc (v := nI i + (1 : Int32)) (lv' := [(2, .int (nI i + (1 : Int32))), (0, .ref v1), (1, .ref v2)]) hx hb dJ1_equals_b5fdf_26 hl (k := 0) rfl rfl (by decide) rfl (fun ls hl => ?_)
      refine lv_goto (tgt := 9) hx hb dJ1_equals_b5fdf_29 (by decide) ?_
      exact ih (i + 1) ls (by omega) (by rw [nI_succ]; exact hl)
  refine lv_aload_n hx hb dJ1_equals_b5fdf_0 rfl (lv_at hl 0 rfl) ?_
  refine va_alen hx hb hK hP 0 2 rfl rfl (v := Int32.ofNat k1) rfl dJ1_equals_b5fdf_1 ?_
  refine lv_aload_n hx hb dJ1_equals_b5fdf_2 rfl (lv_at hl 1 rfl) ?_
  refine va_alen hx hb hK hP 1 2 rfl rfl (v := Int32.ofNat k1) rfl dJ1_equals_b5fdf_3 ?_
  refine lv_icmp_ne (tgt := 34) hx hb dJ1_equals_b5fdf_4 (by decide) (fun q => absurd rfl q) (fun _ => ?_)
  refine lv_iconst (v := (0 : Int32)) hx hb dJ1_equals_b5fdf_7 (by decide) ?_
  refine lv_istore_n (lv' := [(2, .int (0 : Int32)), (0, .ref v1), (1, .ref v2)]) hx hb dJ1_equals_b5fdf_8 rfl hl (by decide) rfl (fun ls hl => ?_)
  exact LOOP k1 0 ls (Nat.zero_add _) (by rw [nI_0]; exact hl)
theorem mc_J0_equals_9ea2d_J0 : ∀ w ∈ wsJ00, w ∈ wsJ0_equals_9ea2d := by decide +kernel
theorem mj_J0_equals_9ea2d_clJ0 : Cond.classLink RJ0 10 RJ0 ∈ wsJ0_equals_9ea2d := by decide +kernel
theorem mj_J0_equals_9ea2d_f15 : Cond.fieldLink RJ0 15 "java/lang/String" "coder" "B" ∈ wsJ0_equals_9ea2d := by decide +kernel
theorem mj_J0_equals_9ea2d_f38 : Cond.fieldLink RJ0 38 "java/lang/String" "COMPACT_STRINGS" "Z" ∈ wsJ0_equals_9ea2d := by decide +kernel
theorem mj_J0_equals_9ea2d_f9 : Cond.fieldLink RJ0 9 "java/lang/String" "value" "[B" ∈ wsJ0_equals_9ea2d := by decide +kernel
abbrev rm_J0_equals_9ea2d : Room := { frames := 1, cells := 0, slots := 0, locals := 22 }
set_option maxHeartbeats 4000000 in
set_option maxRecDepth 100000 in
theorem j_J0_equals_9ea2d (l : Launch) (D : va_G) (cI cD cB : ClassId) (r1 : Nat) (v1 : Nat) (r2 : Nat) (v2 : Nat) (k1 : Nat) (k2 : Nat) (g1 : Nat → Int32) (g2 : Nat → Int32) (hk : k1 ≤ 10) (hkk : k1 = k2) (he : ∀ i, i < k1 → g1 i = g2 i) : Ci l yJ0_equals_9ea2d wsJ0_equals_9ea2d rm_J0_equals_9ea2d D (TT cI cD cB) [.ref r1, .ref r2] [(r1, .inr (0, [.ref v1, .int (0 : Int32), .int 0, .int 0])), (v1, .inl (cB, k1, .inl g1)), (r2, .inr (0, [.ref v2, .int (0 : Int32), .int 0, .int 0])), (v2, .inl (cB, k2, .inl g2))] [(r1, .inr (0, [.ref v1, .int (0 : Int32), .int 0, .int 0])), (v1, .inl (cB, k1, .inl g1)), (r2, .inr (0, [.ref v2, .int (0 : Int32), .int 0, .int 0])), (v2, .inl (cB, k2, .inl g2))] (1 : Int32) 0 0 := by
  refine st_i (cc := cJ0_equals_9ea2d) (maxL := 3) (by decide) rfl (Nat.le_of_ble_eq_true rfl) (fun p e s m av below meth c A Q ls hx hb hml hts hown hA hK hNM hZ hP hD hS hl hfin => ?_)
  have hown : s.vm.findClass RJ0 = some m.cls := hown
  have hl : lv_has ls 3 [(0, .ref r1), (1, .ref r2)] := hl
  refine lv_aload_n hx hb dJ0_equals_9ea2d_0 rfl (lv_at hl 0 rfl) ?_
  refine lv_aload_n hx hb dJ0_equals_9ea2d_1 rfl (lv_at hl 1 rfl) ?_
  refine lv_acmp_ne (rx := some r1) (ry := some r2) (tgt := 7) hx hb dJ0_equals_9ea2d_2 (by decide) (fun _ => ?_) (fun q => absurd (hD.1 0 2 _ _ rfl rfl (Option.some.inj q)) (by decide))
  refine lv_aload_n hx hb dJ0_equals_9ea2d_7 rfl (lv_at hl 1 rfl) ?_
  refine va_instS (own := RJ0) (nm := RJ0) hx hb hown (hts _ mj_J0_equals_9ea2d_clJ0) (hK.1 0 (RJ0, TJ0, 4) rfl).2 (va_recv (q := (RJ0, TJ0, 4)) hK hP (ci := 0) (q0 := 2) rfl rfl) dJ0_equals_9ea2d_8 ?_
  refine lv_if_eq (tgt := 54) hx hb dJ0_equals_9ea2d_11 (by decide) (fun q => absurd q (by decide)) (fun _ => ?_)
  refine lv_aload_n hx hb dJ0_equals_9ea2d_14 rfl (lv_at hl 1 rfl) ?_
  refine va_castS (own := RJ0) (nm := RJ0) hx hb hown (hts _ mj_J0_equals_9ea2d_clJ0) (hK.1 0 (RJ0, TJ0, 4) rfl).2 (va_recv (q := (RJ0, TJ0, 4)) hK hP (ci := 0) (q0 := 2) rfl rfl) dJ0_equals_9ea2d_15 ?_
  refine lv_astore_n (lv' := [(2, .ref r2), (0, .ref r1), (1, .ref r2)]) hx hb dJ0_equals_9ea2d_18 rfl hl (by decide) rfl (fun ls hl => ?_)
  refine va_gets hx hb hZ.2.2.1 hS hown (hts _ mj_J0_equals_9ea2d_f38) (fun _ h9 => h9) dJ0_equals_9ea2d_19 ?_
  refine lv_if_eq (tgt := 36) hx hb dJ0_equals_9ea2d_22 (by decide) (fun q => absurd q (by decide)) (fun _ => ?_)
  refine lv_aload_n hx hb dJ0_equals_9ea2d_25 rfl (lv_at hl 1 rfl) ?_
  refine va_get (D := D) (ci := 0) (v := .int (0 : Int32)) (C := RJ0) (T := TJ0) (N := 4) hx hb hts mc_J0_equals_9ea2d_J0 hown hK hP 0 rfl rfl 1 (by decide) (hts _ mj_J0_equals_9ea2d_f15) (fun _ h9 => h9) rfl dJ0_equals_9ea2d_26 ?_
  refine lv_aload_n hx hb dJ0_equals_9ea2d_29 rfl (lv_at hl 0 rfl) ?_
  refine va_get (D := D) (ci := 0) (v := .int (0 : Int32)) (C := RJ0) (T := TJ0) (N := 4) hx hb hts mc_J0_equals_9ea2d_J0 hown hK hP 2 rfl rfl 1 (by decide) (hts _ mj_J0_equals_9ea2d_f15) (fun _ h9 => h9) rfl dJ0_equals_9ea2d_30 ?_
  refine lv_icmp_ne (tgt := 54) hx hb dJ0_equals_9ea2d_33 (by decide) (fun q => absurd q (by decide)) (fun _ => ?_)
  refine lv_aload_n hx hb dJ0_equals_9ea2d_36 rfl (lv_at hl 1 rfl) ?_
  refine va_get (D := D) (ci := 0) (v := .ref v1) (C := RJ0) (T := TJ0) (N := 4) hx hb hts mc_J0_equals_9ea2d_J0 hown hK hP 0 rfl rfl 0 (by decide) (hts _ mj_J0_equals_9ea2d_f9) (fun _ h9 => h9) rfl dJ0_equals_9ea2d_37 ?_
  refine lv_aload_n hx hb dJ0_equals_9ea2d_40 rfl (lv_at hl 0 rfl) ?_
  refine va_get (D := D) (ci := 0) (v := .ref v2) (C := RJ0) (T := TJ0) (N := 4) hx hb hts mc_J0_equals_9ea2d_J0 hown hK hP 2 rfl rfl 0 (by decide) (hts _ mj_J0_equals_9ea2d_f9) (fun _ h9 => h9) rfl dJ0_equals_9ea2d_41 ?_
  refine co_i (W0 := [(v1, .inl (cB, k1, .inl g1)), (v2, .inl (cB, k2, .inl g2))]) (wr := [(r1, .inr (0, [.ref v1, .int (0 : Int32), .int 0, .int 0])), (r2, .inr (0, [.ref v2, .int (0 : Int32), .int 0, .int 0]))]) (W1 := [(v1, .inl (cB, k1, .inl g1)), (v2, .inl (cB, k2, .inl g2))]) (ws2 := [(r1, .inr (0, [.ref v1, .int (0 : Int32), .int 0, .int 0])), (v1, .inl (cB, k1, .inl g1)), (r2, .inr (0, [.ref v2, .int (0 : Int32), .int 0, .int 0])), (v2, .inl (cB, k2, .inl g2))]) (va_runS (As := [.ref v1, .ref v2]) (rest := []) ⟨hx, hb, hml, hown, hts⟩ (j_J1_equals_b5fdf l D cI cD cB v1 v2 k1 k2 g1 g2 hk hkk he _) (va_cwS 2 hts gJ0_equals_9ea2d_J1_equals_b5fdf rfl rfl rfl (by decide +kernel) ⟨Nat.le_of_ble_eq_true rfl, Nat.le_of_ble_eq_true rfl⟩) (my_preS [1, 3] hP hK hNM hZ hD hS hA rfl rfl) rfl rfl hl.1 rfl (lv_room (Nat.le_of_ble_eq_true rfl)) dJ0_equals_9ea2d_44 ⟨Nat.le_of_ble_eq_true rfl, Nat.le_of_ble_eq_true rfl⟩) hP hD hS hA [1, 3] [0, 2] [0, 2, 1, 3] rfl rfl rfl rfl rfl (by decide) (fun H locs hP hD hS => ?_)
  have hP : va_P D vwCl [(r1, .inr (0, [.ref v1, .int (0 : Int32), .int 0, .int 0])), (v1, .inl (cB, k1, .inl g1)), (r2, .inr (0, [.ref v2, .int (0 : Int32), .int 0, .int 0])), (v2, .inl (cB, k2, .inl g2))] H := hP
  have hD : va_D A [(r1, .inr (0, [.ref v1, .int (0 : Int32), .int 0, .int 0])), (v1, .inl (cB, k1, .inl g1)), (r2, .inr (0, [.ref v2, .int (0 : Int32), .int 0, .int 0])), (v2, .inl (cB, k2, .inl g2))] := hD
  refine lv_if_eq (tgt := 54) hx hb dJ0_equals_9ea2d_47 (by decide) (fun q => absurd q (by decide)) (fun _ => ?_)
  refine lv_iconst (v := (1 : Int32)) hx hb dJ0_equals_9ea2d_50 (by decide) ?_
  refine lv_goto (tgt := 55) hx hb dJ0_equals_9ea2d_51 (by decide) ?_
  exact hfin 55 _ _ _ dJ0_equals_9ea2d_55 rfl hP hD hS
