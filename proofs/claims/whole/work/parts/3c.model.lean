-- ===== X9_fails fails (I)V =====
abbrev r9_fails : Room := { frames := 0, cells := 0, slots := 0, locals := 0 }
def f9_fails (N : Nat) (p1 : Int32) (v_start : Int32) (v_fault : Int32) (v_faultAt : Int32) : Option (Int32 × Int32) :=
  if v_fault = (0 : Int32) then (some (p1, v_start)) else (some (v_fault, v_faultAt))
set_option maxHeartbeats 4000000 in
set_option maxRecDepth 100000 in
theorem c9_fails (l : Launch) (D : va_G) (cy : Nat → ClassId) (N : Nat) (h0 : Nat) (oh0_0 oh0_1 oh0_2 oh0_3 oh0_4 oh0_5 oh0_6 oh0_7 oh0_8 oh0_9 oh0_10 oh0_11 oh0_12 oh0_13 oh0_14 oh0_15 oh0_17 oh0_18 oh0_21 oh0_22 oh0_23 oh0_24 oh0_25 oh0_26 oh0_27 oh0_28 oh0_29 oh0_30 oh0_31 oh0_32 oh0_33 oh0_34 oh0_35 oh0_36 oh0_37 : Value) (p1 : Int32) (v_start : Int32) (v_fault : Int32) (v_faultAt : Int32) (nv_fault : Int32) (nv_faultAt : Int32) (hM : f9_fails N p1 v_start v_fault v_faultAt = some (nv_fault, nv_faultAt)) (sz : Nat) : CTv l yX9_fails wsX9_fails r9_fails [.ref h0, .int p1] D cy sz [(h0, .inr (9, [oh0_0, oh0_1, oh0_2, oh0_3, oh0_4, oh0_5, oh0_6, oh0_7, oh0_8, oh0_9, oh0_10, oh0_11, oh0_12, oh0_13, oh0_14, oh0_15, .int v_start, oh0_17, oh0_18, .int v_fault, .int v_faultAt, oh0_21, oh0_22, oh0_23, oh0_24, oh0_25, oh0_26, oh0_27, oh0_28, oh0_29, oh0_30, oh0_31, oh0_32, oh0_33, oh0_34, oh0_35, oh0_36, oh0_37]))] [(h0, .inr (9, [oh0_0, oh0_1, oh0_2, oh0_3, oh0_4, oh0_5, oh0_6, oh0_7, oh0_8, oh0_9, oh0_10, oh0_11, oh0_12, oh0_13, oh0_14, oh0_15, .int v_start, oh0_17, oh0_18, .int nv_fault, .int nv_faultAt, oh0_21, oh0_22, oh0_23, oh0_24, oh0_25, oh0_26, oh0_27, oh0_28, oh0_29, oh0_30, oh0_31, oh0_32, oh0_33, oh0_34, oh0_35, oh0_36, oh0_37]))] := by
  unfold f9_fails at hM
  refine ct_ov (cc := cX9_fails) (maxL := 2)  (by decide +kernel) rfl (Nat.le_of_ble_eq_true rfl) (lv0 := [(0, .ref h0), (1, .int p1)]) rfl ?_
  intro p e s m args below meth c A Q ls hx hb hts hown hml hK hP hD hS hA hret hl
  have hown : s.vm.findClass RX9 = some m.cls := hown
  have k128 := hts (.fieldLink RX9 128 "CaveYearsModel" "fault" "I") (List.mem_of_getElem? (i := 1) (by decide +kernel))
  have iX9 := (fun w h => (List.mem_cons_of_mem _ (List.mem_append_right _ h)) : ∀ w ∈ wsX90, w ∈ wsX9_fails)
  have k114 := hts (.fieldLink RX9 114 "CaveYearsModel" "start" "I") (List.mem_of_getElem? (i := 2) (by decide +kernel))
  have k91 := hts (.fieldLink RX9 91 "CaveYearsModel" "faultAt" "I") (List.mem_of_getElem? (i := 3) (by decide +kernel))
  refine lv_aload_n hx hb dX9_fails_0 rfl (lv_at hl 0 rfl) ?_
  refine va_get (D := D) (ci := 9) (v := .int v_fault) (C := RX9) (T := TX9) (N := 38) hx hb hts iX9 hown hK hP 0 rfl rfl 19 (by decide) k128 (fun _ h9 => h9) rfl dX9_fails_1 ?_
  refine lv_if_ne (tgt := 20) hx hb dX9_fails_4 (by decide) (fun c4 => ?_) (fun c4 => ?_)
  · have hM := g_neg c4 hM
    obtain ⟨rfl, rfl⟩ := si2 hM
    exact hret _ _ _ _ dX9_fails_20 hP hD hS
  · have hM := g_pos c4 hM
    refine lv_aload_n hx hb dX9_fails_7 rfl (lv_at hl 0 rfl) ?_
    refine lv_iload_n hx hb dX9_fails_8 rfl (lv_at hl 1 rfl) ?_
    refine va_put (D := D) (ci := 9) (v := .int p1) (ty := .int) (C := RX9) (T := TX9) (N := 38) hx hb hts iX9 tyX9 tyX9_ok nmX9 hown hK hP hD hS 0 rfl rfl 19 (by decide) k128 (fun _ h9 => h9) rfl (by decide +kernel) rfl rfl (Nat.le_of_ble_eq_true rfl) dX9_fails_9 (fun H locs hP hD hS => ?_)
    have hP : va_P D vwCl [(h0, .inr (9, [oh0_0, oh0_1, oh0_2, oh0_3, oh0_4, oh0_5, oh0_6, oh0_7, oh0_8, oh0_9, oh0_10, oh0_11, oh0_12, oh0_13, oh0_14, oh0_15, .int v_start, oh0_17, oh0_18, .int p1, .int v_faultAt, oh0_21, oh0_22, oh0_23, oh0_24, oh0_25, oh0_26, oh0_27, oh0_28, oh0_29, oh0_30, oh0_31, oh0_32, oh0_33, oh0_34, oh0_35, oh0_36, oh0_37]))] H := hP
    have hD : va_D A [(h0, .inr (9, [oh0_0, oh0_1, oh0_2, oh0_3, oh0_4, oh0_5, oh0_6, oh0_7, oh0_8, oh0_9, oh0_10, oh0_11, oh0_12, oh0_13, oh0_14, oh0_15, .int v_start, oh0_17, oh0_18, .int p1, .int v_faultAt, oh0_21, oh0_22, oh0_23, oh0_24, oh0_25, oh0_26, oh0_27, oh0_28, oh0_29, oh0_30, oh0_31, oh0_32, oh0_33, oh0_34, oh0_35, oh0_36, oh0_37]))] := hD
    refine lv_aload_n hx hb dX9_fails_12 rfl (lv_at hl 0 rfl) ?_
    refine lv_aload_n hx hb dX9_fails_13 rfl (lv_at hl 0 rfl) ?_
    refine va_get (D := D) (ci := 9) (v := .int v_start) (C := RX9) (T := TX9) (N := 38) hx hb hts iX9 hown hK hP 0 rfl rfl 16 (by decide) k114 (fun _ h9 => h9) rfl dX9_fails_14 ?_
    refine va_put (D := D) (ci := 9) (v := .int v_start) (ty := .int) (C := RX9) (T := TX9) (N := 38) hx hb hts iX9 tyX9 tyX9_ok nmX9 hown hK hP hD hS 0 rfl rfl 20 (by decide) k91 (fun _ h9 => h9) rfl (by decide +kernel) rfl rfl (Nat.le_of_ble_eq_true rfl) dX9_fails_17 (fun H locs hP hD hS => ?_)
    have hP : va_P D vwCl [(h0, .inr (9, [oh0_0, oh0_1, oh0_2, oh0_3, oh0_4, oh0_5, oh0_6, oh0_7, oh0_8, oh0_9, oh0_10, oh0_11, oh0_12, oh0_13, oh0_14, oh0_15, .int v_start, oh0_17, oh0_18, .int p1, .int v_start, oh0_21, oh0_22, oh0_23, oh0_24, oh0_25, oh0_26, oh0_27, oh0_28, oh0_29, oh0_30, oh0_31, oh0_32, oh0_33, oh0_34, oh0_35, oh0_36, oh0_37]))] H := hP
    have hD : va_D A [(h0, .inr (9, [oh0_0, oh0_1, oh0_2, oh0_3, oh0_4, oh0_5, oh0_6, oh0_7, oh0_8, oh0_9, oh0_10, oh0_11, oh0_12, oh0_13, oh0_14, oh0_15, .int v_start, oh0_17, oh0_18, .int p1, .int v_start, oh0_21, oh0_22, oh0_23, oh0_24, oh0_25, oh0_26, oh0_27, oh0_28, oh0_29, oh0_30, oh0_31, oh0_32, oh0_33, oh0_34, oh0_35, oh0_36, oh0_37]))] := hD
    obtain ⟨rfl, rfl⟩ := si2 hM
    exact hret _ _ _ _ dX9_fails_20 hP hD hS

-- ===== X9_number number (II)I =====
abbrev r9_number : Room := { frames := 2, cells := 0, slots := 0, locals := 46 }
def f9_number (N : Nat) (p1 : Int32) (p2 : Int32) (v_typed : Int32) (v_at : Int32) (v_start : Int32) (v_sort : Int32) (v_value : Int32) (v_fault : Int32) (v_faultAt : Int32) (v_text : Nat → Int32) : Option (Int32 × Int32 × Int32 × Int32 × Int32 × Int32 × Int32) :=
  if v_fault = (0 : Int32) then (if v_sort = (6 : Int32) then (ob1 (f9_in N v_value p1 p2) fun r35 => if r35 = (0 : Int32) then (ob2 (f9_fails N (2 : Int32) v_start v_fault v_faultAt) fun v_fault_43 v_faultAt_43 => some (v_value, v_at, v_start, v_sort, v_value, v_fault_43, v_faultAt_43)) else (ob4 (f9_step N v_typed v_at v_start v_sort v_value v_text) fun v_at_50 v_start_50 v_sort_50 v_value_50 => some (v_value, v_at_50, v_start_50, v_sort_50, v_value_50, v_fault, v_faultAt))) else (ob2 (f9_fails N (1 : Int32) v_start v_fault v_faultAt) fun v_fault_23 v_faultAt_23 => some (v_value, v_at, v_start, v_sort, v_value, v_fault_23, v_faultAt_23))) else (some (v_value, v_at, v_start, v_sort, v_value, v_fault, v_faultAt))
set_option maxHeartbeats 4000000 in
set_option maxRecDepth 100000 in
theorem c9_number (l : Launch) (D : va_G) (cy : Nat → ClassId) (N : Nat) (h0 h0_text : Nat) (oh0_0 oh0_3 oh0_4 oh0_5 oh0_6 oh0_7 oh0_8 oh0_9 oh0_10 oh0_11 oh0_12 oh0_13 oh0_14 oh0_21 oh0_22 oh0_23 oh0_24 oh0_25 oh0_26 oh0_27 oh0_28 oh0_29 oh0_30 oh0_31 oh0_32 oh0_33 oh0_34 oh0_35 oh0_36 oh0_37 : Value) (p1 : Int32) (p2 : Int32) (v_typed : Int32) (v_at : Int32) (v_start : Int32) (v_sort : Int32) (v_value : Int32) (v_fault : Int32) (v_faultAt : Int32) (v_text : Nat → Int32) (r : Int32) (nv_at : Int32) (nv_start : Int32) (nv_sort : Int32) (nv_value : Int32) (nv_fault : Int32) (nv_faultAt : Int32) (hM : f9_number N p1 p2 v_typed v_at v_start v_sort v_value v_fault v_faultAt v_text = some (r, nv_at, nv_start, nv_sort, nv_value, nv_fault, nv_faultAt)) (sz : Nat) : CTi l yX9_number wsX9_number r9_number [.ref h0, .int p1, .int p2] D cy sz [(h0, .inr (9, [oh0_0, .ref h0_text, .int v_typed, oh0_3, oh0_4, oh0_5, oh0_6, oh0_7, oh0_8, oh0_9, oh0_10, oh0_11, oh0_12, oh0_13, oh0_14, .int v_at, .int v_start, .int v_sort, .int v_value, .int v_fault, .int v_faultAt, oh0_21, oh0_22, oh0_23, oh0_24, oh0_25, oh0_26, oh0_27, oh0_28, oh0_29, oh0_30, oh0_31, oh0_32, oh0_33, oh0_34, oh0_35, oh0_36, oh0_37])), (h0_text, .inl (cy 0, 500, .inl v_text))] [(h0, .inr (9, [oh0_0, .ref h0_text, .int v_typed, oh0_3, oh0_4, oh0_5, oh0_6, oh0_7, oh0_8, oh0_9, oh0_10, oh0_11, oh0_12, oh0_13, oh0_14, .int nv_at, .int nv_start, .int nv_sort, .int nv_value, .int nv_fault, .int nv_faultAt, oh0_21, oh0_22, oh0_23, oh0_24, oh0_25, oh0_26, oh0_27, oh0_28, oh0_29, oh0_30, oh0_31, oh0_32, oh0_33, oh0_34, oh0_35, oh0_36, oh0_37])), (h0_text, .inl (cy 0, 500, .inl v_text))] r := by
  unfold f9_number at hM
  refine ct_oi (cc := cX9_number) (maxL := 4) (ty := .int) (by decide +kernel) rfl (Nat.le_of_ble_eq_true rfl) (lv0 := [(0, .ref h0), (1, .int p1), (2, .int p2)]) rfl ?_
  intro p e s m args below meth c A Q ls hx hb hts hown hml hK hP hD hS hA hret hl
  have hown : s.vm.findClass RX9 = some m.cls := hown
  have k117 := hts (.fieldLink RX9 117 "CaveYearsModel" "value" "I") (List.mem_of_getElem? (i := 1) (by decide +kernel))
  have iX9 := (fun w h => (List.mem_cons_of_mem _ (List.mem_append_right _ h)) : ∀ w ∈ wsX90, w ∈ wsX9_number)
  have k128 := hts (.fieldLink RX9 128 "CaveYearsModel" "fault" "I") (List.mem_of_getElem? (i := 2) (by decide +kernel))
  have k120 := hts (.fieldLink RX9 120 "CaveYearsModel" "sort" "I") (List.mem_of_getElem? (i := 3) (by decide +kernel))
  refine lv_aload_n hx hb dX9_number_0 rfl (lv_at hl 0 rfl) ?_
  refine va_get (D := D) (ci := 9) (v := .int v_value) (C := RX9) (T := TX9) (N := 38) hx hb hts iX9 hown hK hP 0 rfl rfl 18 (by decide) k117 (fun _ h9 => h9) rfl dX9_number_1 ?_
  refine lv_istore_n (lv' := [(3, .int v_value), (0, .ref h0), (1, .int p1), (2, .int p2)]) hx hb dX9_number_4 rfl hl (by decide) rfl (fun ls hl => ?_)
  refine lv_aload_n hx hb dX9_number_5 rfl (lv_at hl 1 rfl) ?_
  refine va_get (D := D) (ci := 9) (v := .int v_fault) (C := RX9) (T := TX9) (N := 38) hx hb hts iX9 hown hK hP 0 rfl rfl 19 (by decide) k128 (fun _ h9 => h9) rfl dX9_number_6 ?_
  refine lv_if_ne (tgt := 53) hx hb dX9_number_9 (by decide) (fun c9 => ?_) (fun c9 => ?_)
  · have hM := g_neg c9 hM
    refine lv_iload_n hx hb dX9_number_53 rfl (lv_at hl 0 rfl) ?_
    obtain ⟨rfl, rfl, rfl, rfl, rfl, rfl, rfl⟩ := si7 hM
    exact hret _ _ _ _ _ dX9_number_54 rfl rfl hP hD hS
  · have hM := g_pos c9 hM
    refine lv_aload_n hx hb dX9_number_12 rfl (lv_at hl 1 rfl) ?_
    refine va_get (D := D) (ci := 9) (v := .int v_sort) (C := RX9) (T := TX9) (N := 38) hx hb hts iX9 hown hK hP 0 rfl rfl 17 (by decide) k120 (fun _ h9 => h9) rfl dX9_number_13 ?_
    refine lv_bipush (v := 6) hx hb dX9_number_16 (by decide) ?_
    refine lv_icmp_eq (tgt := 29) hx hb dX9_number_18 (by decide) (fun c18 => ?_) (fun c18 => ?_)
    · have hM := g_pos c18 hM
      refine lv_aload_n hx hb dX9_number_29 rfl (lv_at hl 1 rfl) ?_
      refine va_get (D := D) (ci := 9) (v := .int v_value) (C := RX9) (T := TX9) (N := 38) hx hb hts iX9 hown hK hP 0 rfl rfl 18 (by decide) k117 (fun _ h9 => h9) rfl dX9_number_30 ?_
      refine lv_iload_n hx hb dX9_number_33 rfl (lv_at hl 2 rfl) ?_
      refine lv_iload_n hx hb dX9_number_34 rfl (lv_at hl 3 rfl) ?_
      obtain ⟨r35, hc35, hM⟩ := ob1_some hM
      refine cl_si (As := [.int v_value, .int p1, .int p2]) (rest := []) (wr := [(h0, .inr (9, [oh0_0, .ref h0_text, .int v_typed, oh0_3, oh0_4, oh0_5, oh0_6, oh0_7, oh0_8, oh0_9, oh0_10, oh0_11, oh0_12, oh0_13, oh0_14, .int v_at, .int v_start, .int v_sort, .int v_value, .int v_fault, .int v_faultAt, oh0_21, oh0_22, oh0_23, oh0_24, oh0_25, oh0_26, oh0_27, oh0_28, oh0_29, oh0_30, oh0_31, oh0_32, oh0_33, oh0_34, oh0_35, oh0_36, oh0_37])), (h0_text, .inl (cy 0, 500, .inl v_text))]) (ws2 := [(h0, .inr (9, [oh0_0, .ref h0_text, .int v_typed, oh0_3, oh0_4, oh0_5, oh0_6, oh0_7, oh0_8, oh0_9, oh0_10, oh0_11, oh0_12, oh0_13, oh0_14, .int v_at, .int v_start, .int v_sort, .int v_value, .int v_fault, .int v_faultAt, oh0_21, oh0_22, oh0_23, oh0_24, oh0_25, oh0_26, oh0_27, oh0_28, oh0_29, oh0_30, oh0_31, oh0_32, oh0_33, oh0_34, oh0_35, oh0_36, oh0_37])), (h0_text, .inl (cy 0, 500, .inl v_text))]) (isC := []) (isR := [0, 1]) (pm := [0, 1]) hx hb hml hown hts (c9_in l D cy N v_value p1 p2 r35 hc35) (va_cwS 3 hts gX9_number_X9_in rfl rfl rfl (by decide +kernel) ⟨Nat.le_of_ble_eq_true rfl, Nat.le_of_ble_eq_true rfl⟩) hK hP hD hS hA rfl rfl rfl (by decide) rfl rfl rfl hl.1 (Nat.le_of_ble_eq_true rfl) dX9_number_35 ⟨Nat.zero_le _, Nat.zero_le _⟩ rfl rfl (fun H locs hP hD hS => ?_)
      refine lv_if_ne (tgt := 49) hx hb dX9_number_38 (by decide) (fun c38 => ?_) (fun c38 => ?_)
      · have hM := g_neg c38 hM
        refine lv_aload_n hx hb dX9_number_49 rfl (lv_at hl 1 rfl) ?_
        obtain ⟨v_at_50, v_start_50, v_sort_50, v_value_50, hc50, hM⟩ := ob4_some hM
        refine cl_vv (As := []) (rest := []) (ci := 9) (q0 := 0) (wr := []) (ws2 := [(h0, .inr (9, [oh0_0, .ref h0_text, .int v_typed, oh0_3, oh0_4, oh0_5, oh0_6, oh0_7, oh0_8, oh0_9, oh0_10, oh0_11, oh0_12, oh0_13, oh0_14, .int v_at_50, .int v_start_50, .int v_sort_50, .int v_value_50, .int v_fault, .int v_faultAt, oh0_21, oh0_22, oh0_23, oh0_24, oh0_25, oh0_26, oh0_27, oh0_28, oh0_29, oh0_30, oh0_31, oh0_32, oh0_33, oh0_34, oh0_35, oh0_36, oh0_37])), (h0_text, .inl (cy 0, 500, .inl v_text))]) (isC := [0, 1]) (isR := []) (pm := [0, 1]) hx hb hml hown hts (c9_step l D cy N h0 h0_text oh0_0 oh0_3 oh0_4 oh0_5 oh0_6 oh0_7 oh0_8 oh0_9 oh0_10 oh0_11 oh0_12 oh0_13 oh0_14 (.int v_fault) (.int v_faultAt) oh0_21 oh0_22 oh0_23 oh0_24 oh0_25 oh0_26 oh0_27 oh0_28 oh0_29 oh0_30 oh0_31 oh0_32 oh0_33 oh0_34 oh0_35 oh0_36 oh0_37 v_typed v_at v_start v_sort v_value v_text v_at_50 v_start_50 v_sort_50 v_value_50 hc50) (cwV 0 hts gX9_number_X9_step rfl rfl rfl (by decide +kernel) ⟨Nat.le_of_ble_eq_true rfl, Nat.le_of_ble_eq_true rfl⟩) hK hP hD hS hA rfl rfl rfl rfl rfl (by decide) rfl rfl rfl hl.1 (Nat.le_of_ble_eq_true rfl) dX9_number_50 ⟨Nat.zero_le _, Nat.zero_le _⟩ rfl rfl (fun H locs hP hD hS => ?_)
        refine lv_iload_n hx hb dX9_number_53 rfl (lv_at hl 0 rfl) ?_
        obtain ⟨rfl, rfl, rfl, rfl, rfl, rfl, rfl⟩ := si7 hM
        exact hret _ _ _ _ _ dX9_number_54 rfl rfl hP hD hS
      · have hM := g_pos c38 hM
        refine lv_aload_n hx hb dX9_number_41 rfl (lv_at hl 1 rfl) ?_
        refine lv_iconst (v := 2) hx hb dX9_number_42 (by decide) ?_
        obtain ⟨v_fault_43, v_faultAt_43, hc43, hM⟩ := ob2_some hM
        refine cl_vv (As := [.int (2 : Int32)]) (rest := []) (ci := 9) (q0 := 0) (wr := [(h0_text, .inl (cy 0, 500, .inl v_text))]) (ws2 := [(h0, .inr (9, [oh0_0, .ref h0_text, .int v_typed, oh0_3, oh0_4, oh0_5, oh0_6, oh0_7, oh0_8, oh0_9, oh0_10, oh0_11, oh0_12, oh0_13, oh0_14, .int v_at, .int v_start, .int v_sort, .int v_value, .int v_fault_43, .int v_faultAt_43, oh0_21, oh0_22, oh0_23, oh0_24, oh0_25, oh0_26, oh0_27, oh0_28, oh0_29, oh0_30, oh0_31, oh0_32, oh0_33, oh0_34, oh0_35, oh0_36, oh0_37])), (h0_text, .inl (cy 0, 500, .inl v_text))]) (isC := [0]) (isR := [1]) (pm := [1, 0]) hx hb hml hown hts (c9_fails l D cy N h0 oh0_0 (.ref h0_text) (.int v_typed) oh0_3 oh0_4 oh0_5 oh0_6 oh0_7 oh0_8 oh0_9 oh0_10 oh0_11 oh0_12 oh0_13 oh0_14 (.int v_at) (.int v_sort) (.int v_value) oh0_21 oh0_22 oh0_23 oh0_24 oh0_25 oh0_26 oh0_27 oh0_28 oh0_29 oh0_30 oh0_31 oh0_32 oh0_33 oh0_34 oh0_35 oh0_36 oh0_37 (2 : Int32) v_start v_fault v_faultAt v_fault_43 v_faultAt_43 hc43) (cwV 1 hts gX9_number_X9_fails rfl rfl rfl (by decide +kernel) ⟨Nat.le_of_ble_eq_true rfl, Nat.le_of_ble_eq_true rfl⟩) hK hP hD hS hA rfl rfl rfl rfl rfl (by decide) rfl rfl rfl hl.1 (Nat.le_of_ble_eq_true rfl) dX9_number_43 ⟨Nat.zero_le _, Nat.zero_le _⟩ rfl rfl (fun H locs hP hD hS => ?_)
        refine lv_goto (tgt := 53) hx hb dX9_number_46 (by decide) ?_
        refine lv_iload_n hx hb dX9_number_53 rfl (lv_at hl 0 rfl) ?_
        obtain ⟨rfl, rfl, rfl, rfl, rfl, rfl, rfl⟩ := si7 hM
        exact hret _ _ _ _ _ dX9_number_54 rfl rfl hP hD hS
    · have hM := g_neg c18 hM
      refine lv_aload_n hx hb dX9_number_21 rfl (lv_at hl 1 rfl) ?_
      refine lv_iconst (v := 1) hx hb dX9_number_22 (by decide) ?_
      obtain ⟨v_fault_23, v_faultAt_23, hc23, hM⟩ := ob2_some hM
      refine cl_vv (As := [.int (1 : Int32)]) (rest := []) (ci := 9) (q0 := 0) (wr := [(h0_text, .inl (cy 0, 500, .inl v_text))]) (ws2 := [(h0, .inr (9, [oh0_0, .ref h0_text, .int v_typed, oh0_3, oh0_4, oh0_5, oh0_6, oh0_7, oh0_8, oh0_9, oh0_10, oh0_11, oh0_12, oh0_13, oh0_14, .int v_at, .int v_start, .int v_sort, .int v_value, .int v_fault_23, .int v_faultAt_23, oh0_21, oh0_22, oh0_23, oh0_24, oh0_25, oh0_26, oh0_27, oh0_28, oh0_29, oh0_30, oh0_31, oh0_32, oh0_33, oh0_34, oh0_35, oh0_36, oh0_37])), (h0_text, .inl (cy 0, 500, .inl v_text))]) (isC := [0]) (isR := [1]) (pm := [1, 0]) hx hb hml hown hts (c9_fails l D cy N h0 oh0_0 (.ref h0_text) (.int v_typed) oh0_3 oh0_4 oh0_5 oh0_6 oh0_7 oh0_8 oh0_9 oh0_10 oh0_11 oh0_12 oh0_13 oh0_14 (.int v_at) (.int v_sort) (.int v_value) oh0_21 oh0_22 oh0_23 oh0_24 oh0_25 oh0_26 oh0_27 oh0_28 oh0_29 oh0_30 oh0_31 oh0_32 oh0_33 oh0_34 oh0_35 oh0_36 oh0_37 (1 : Int32) v_start v_fault v_faultAt v_fault_23 v_faultAt_23 hc23) (cwV 1 hts gX9_number_X9_fails rfl rfl rfl (by decide +kernel) ⟨Nat.le_of_ble_eq_true rfl, Nat.le_of_ble_eq_true rfl⟩) hK hP hD hS hA rfl rfl rfl rfl rfl (by decide) rfl rfl rfl hl.1 (Nat.le_of_ble_eq_true rfl) dX9_number_23 ⟨Nat.zero_le _, Nat.zero_le _⟩ rfl rfl (fun H locs hP hD hS => ?_)
      refine lv_goto (tgt := 53) hx hb dX9_number_26 (by decide) ?_
      refine lv_iload_n hx hb dX9_number_53 rfl (lv_at hl 0 rfl) ?_
      obtain ⟨rfl, rfl, rfl, rfl, rfl, rfl, rfl⟩ := si7 hM
      exact hret _ _ _ _ _ dX9_number_54 rfl rfl hP hD hS

-- ===== X9_partBut partBut (I)I =====
abbrev r9_partBut : Room := { frames := 3, cells := 0, slots := 0, locals := 69 }
def f9_partBut (N : Nat) (p1 : Int32) (v_typed : Int32) (v_at : Int32) (v_start : Int32) (v_sort : Int32) (v_value : Int32) (v_fault : Int32) (v_faultAt : Int32) (v_text : Nat → Int32) (v_parts : Nat → Int32) : Option (Int32 × Int32 × Int32 × Int32 × Int32 × Int32 × Int32) :=
  if v_fault = (0 : Int32) then (if v_sort = (6 : Int32) then (gi (1 : Int32) 2 (ob1 (f9_in N v_value (0 : Int32) ((v_parts (1 : Int32).toNatClampNeg) - (1 : Int32))) fun r29 => if r29 = (0 : Int32) then (gi (1 : Int32) 2 (ob7 (f9_number N (0 : Int32) ((v_parts (1 : Int32).toNatClampNeg) - (1 : Int32)) v_typed v_at v_start v_sort v_value v_fault v_faultAt v_text) fun r62 v_at_62 v_start_62 v_sort_62 v_value_62 v_fault_62 v_faultAt_62 => some (r62, v_at_62, v_start_62, v_sort_62, v_value_62, v_fault_62, v_faultAt_62))) else (if ((p1 >>> (v_value &&& 31)) &&& (1 : Int32)) = (1 : Int32) then (ob2 (f9_fails N (4 : Int32) v_start v_fault v_faultAt) fun v_fault_49 v_faultAt_49 => gi (1 : Int32) 2 (ob7 (f9_number N (0 : Int32) ((v_parts (1 : Int32).toNatClampNeg) - (1 : Int32)) v_typed v_at v_start v_sort v_value v_fault_49 v_faultAt_49 v_text) fun r62 v_at_62 v_start_62 v_sort_62 v_value_62 v_fault_62 v_faultAt_62 => some (r62, v_at_62, v_start_62, v_sort_62, v_value_62, v_fault_62, v_faultAt_62))) else (gi (1 : Int32) 2 (ob7 (f9_number N (0 : Int32) ((v_parts (1 : Int32).toNatClampNeg) - (1 : Int32)) v_typed v_at v_start v_sort v_value v_fault v_faultAt v_text) fun r62 v_at_62 v_start_62 v_sort_62 v_value_62 v_fault_62 v_faultAt_62 => some (r62, v_at_62, v_start_62, v_sort_62, v_value_62, v_fault_62, v_faultAt_62)))))) else (gi (1 : Int32) 2 (ob7 (f9_number N (0 : Int32) ((v_parts (1 : Int32).toNatClampNeg) - (1 : Int32)) v_typed v_at v_start v_sort v_value v_fault v_faultAt v_text) fun r62 v_at_62 v_start_62 v_sort_62 v_value_62 v_fault_62 v_faultAt_62 => some (r62, v_at_62, v_start_62, v_sort_62, v_value_62, v_fault_62, v_faultAt_62)))) else (gi (1 : Int32) 2 (ob7 (f9_number N (0 : Int32) ((v_parts (1 : Int32).toNatClampNeg) - (1 : Int32)) v_typed v_at v_start v_sort v_value v_fault v_faultAt v_text) fun r62 v_at_62 v_start_62 v_sort_62 v_value_62 v_fault_62 v_faultAt_62 => some (r62, v_at_62, v_start_62, v_sort_62, v_value_62, v_fault_62, v_faultAt_62)))
set_option maxHeartbeats 4000000 in
set_option maxRecDepth 100000 in
theorem c9_partBut (l : Launch) (D : va_G) (cy : Nat → ClassId) (N : Nat) (h0 h0_text h0_parts : Nat) (oh0_0 oh0_4 oh0_5 oh0_6 oh0_7 oh0_8 oh0_9 oh0_10 oh0_11 oh0_12 oh0_13 oh0_14 oh0_21 oh0_22 oh0_23 oh0_24 oh0_25 oh0_26 oh0_27 oh0_28 oh0_29 oh0_30 oh0_31 oh0_32 oh0_33 oh0_34 oh0_35 oh0_36 oh0_37 : Value) (p1 : Int32) (v_typed : Int32) (v_at : Int32) (v_start : Int32) (v_sort : Int32) (v_value : Int32) (v_fault : Int32) (v_faultAt : Int32) (v_text : Nat → Int32) (v_parts : Nat → Int32) (r : Int32) (nv_at : Int32) (nv_start : Int32) (nv_sort : Int32) (nv_value : Int32) (nv_fault : Int32) (nv_faultAt : Int32) (hM : f9_partBut N p1 v_typed v_at v_start v_sort v_value v_fault v_faultAt v_text v_parts = some (r, nv_at, nv_start, nv_sort, nv_value, nv_fault, nv_faultAt)) (sz : Nat) : CTi l yX9_partBut wsX9_partBut r9_partBut [.ref h0, .int p1] D cy sz [(h0, .inr (9, [oh0_0, .ref h0_text, .int v_typed, .ref h0_parts, oh0_4, oh0_5, oh0_6, oh0_7, oh0_8, oh0_9, oh0_10, oh0_11, oh0_12, oh0_13, oh0_14, .int v_at, .int v_start, .int v_sort, .int v_value, .int v_fault, .int v_faultAt, oh0_21, oh0_22, oh0_23, oh0_24, oh0_25, oh0_26, oh0_27, oh0_28, oh0_29, oh0_30, oh0_31, oh0_32, oh0_33, oh0_34, oh0_35, oh0_36, oh0_37])), (h0_text, .inl (cy 0, 500, .inl v_text)), (h0_parts, .inl (cy 2, 2, .inl v_parts))] [(h0, .inr (9, [oh0_0, .ref h0_text, .int v_typed, .ref h0_parts, oh0_4, oh0_5, oh0_6, oh0_7, oh0_8, oh0_9, oh0_10, oh0_11, oh0_12, oh0_13, oh0_14, .int nv_at, .int nv_start, .int nv_sort, .int nv_value, .int nv_fault, .int nv_faultAt, oh0_21, oh0_22, oh0_23, oh0_24, oh0_25, oh0_26, oh0_27, oh0_28, oh0_29, oh0_30, oh0_31, oh0_32, oh0_33, oh0_34, oh0_35, oh0_36, oh0_37])), (h0_text, .inl (cy 0, 500, .inl v_text)), (h0_parts, .inl (cy 2, 2, .inl v_parts))] r := by
  unfold f9_partBut at hM
  refine ct_oi (cc := cX9_partBut) (maxL := 2) (ty := .int) (by decide +kernel) rfl (Nat.le_of_ble_eq_true rfl) (lv0 := [(0, .ref h0), (1, .int p1)]) rfl ?_
  intro p e s m args below meth c A Q ls hx hb hts hown hml hK hP hD hS hA hret hl
  have hown : s.vm.findClass RX9 = some m.cls := hown
  have k128 := hts (.fieldLink RX9 128 "CaveYearsModel" "fault" "I") (List.mem_of_getElem? (i := 1) (by decide +kernel))
  have iX9 := (fun w h => (List.mem_cons_of_mem _ (List.mem_append_right _ h)) : ∀ w ∈ wsX90, w ∈ wsX9_partBut)
  have k13 := hts (.fieldLink RX9 13 "CaveYearsModel" "parts" "[I") (List.mem_of_getElem? (i := 4) (by decide +kernel))
  have k120 := hts (.fieldLink RX9 120 "CaveYearsModel" "sort" "I") (List.mem_of_getElem? (i := 2) (by decide +kernel))
  have k117 := hts (.fieldLink RX9 117 "CaveYearsModel" "value" "I") (List.mem_of_getElem? (i := 3) (by decide +kernel))
  refine lv_aload_n hx hb dX9_partBut_0 rfl (lv_at hl 0 rfl) ?_
  refine va_get (D := D) (ci := 9) (v := .int v_fault) (C := RX9) (T := TX9) (N := 38) hx hb hts iX9 hown hK hP 0 rfl rfl 19 (by decide) k128 (fun _ h9 => h9) rfl dX9_partBut_1 ?_
  refine lv_if_ne (tgt := 52) hx hb dX9_partBut_4 (by decide) (fun c4 => ?_) (fun c4 => ?_)
  · have hM := g_neg c4 hM
    refine lv_aload_n hx hb dX9_partBut_52 rfl (lv_at hl 0 rfl) ?_
    refine lv_iconst (v := 0) hx hb dX9_partBut_53 (by decide) ?_
    refine lv_aload_n hx hb dX9_partBut_54 rfl (lv_at hl 0 rfl) ?_
    refine va_get (D := D) (ci := 9) (v := .ref h0_parts) (C := RX9) (T := TX9) (N := 38) hx hb hts iX9 hown hK hP 0 rfl rfl 3 (by decide) k13 (fun _ h9 => h9) rfl dX9_partBut_55 ?_
    refine lv_iconst (v := 1) hx hb dX9_partBut_58 (by decide) ?_
    obtain ⟨h59, hM⟩ := gi_some hM
    refine va_iald hx hb hK hP 2 2 rfl rfl h59 dX9_partBut_59 ?_
    refine lv_iconst (v := 1) hx hb dX9_partBut_60 (by decide) ?_
    refine lv_isub hx hb dX9_partBut_61 ?_
    obtain ⟨r62, v_at_62, v_start_62, v_sort_62, v_value_62, v_fault_62, v_faultAt_62, hc62, hM⟩ := ob7_some hM
    refine cl_vi (As := [.int (0 : Int32), .int ((v_parts (1 : Int32).toNatClampNeg) - (1 : Int32))]) (rest := []) (ci := 9) (q0 := 0) (wr := [(h0_parts, .inl (cy 2, 2, .inl v_parts))]) (ws2 := [(h0, .inr (9, [oh0_0, .ref h0_text, .int v_typed, .ref h0_parts, oh0_4, oh0_5, oh0_6, oh0_7, oh0_8, oh0_9, oh0_10, oh0_11, oh0_12, oh0_13, oh0_14, .int v_at_62, .int v_start_62, .int v_sort_62, .int v_value_62, .int v_fault_62, .int v_faultAt_62, oh0_21, oh0_22, oh0_23, oh0_24, oh0_25, oh0_26, oh0_27, oh0_28, oh0_29, oh0_30, oh0_31, oh0_32, oh0_33, oh0_34, oh0_35, oh0_36, oh0_37])), (h0_text, .inl (cy 0, 500, .inl v_text)), (h0_parts, .inl (cy 2, 2, .inl v_parts))]) (isC := [0, 1]) (isR := [2]) (pm := [1, 2, 0]) hx hb hml hown hts (c9_number l D cy N h0 h0_text oh0_0 (.ref h0_parts) oh0_4 oh0_5 oh0_6 oh0_7 oh0_8 oh0_9 oh0_10 oh0_11 oh0_12 oh0_13 oh0_14 oh0_21 oh0_22 oh0_23 oh0_24 oh0_25 oh0_26 oh0_27 oh0_28 oh0_29 oh0_30 oh0_31 oh0_32 oh0_33 oh0_34 oh0_35 oh0_36 oh0_37 (0 : Int32) ((v_parts (1 : Int32).toNatClampNeg) - (1 : Int32)) v_typed v_at v_start v_sort v_value v_fault v_faultAt v_text r62 v_at_62 v_start_62 v_sort_62 v_value_62 v_fault_62 v_faultAt_62 hc62) (cwV 2 hts gX9_partBut_X9_number rfl rfl rfl (by decide +kernel) ⟨Nat.le_of_ble_eq_true rfl, Nat.le_of_ble_eq_true rfl⟩) hK hP hD hS hA rfl rfl rfl rfl rfl (by decide) rfl rfl rfl hl.1 (Nat.le_of_ble_eq_true rfl) dX9_partBut_62 ⟨Nat.zero_le _, Nat.zero_le _⟩ rfl rfl (fun H locs hP hD hS => ?_)
    obtain ⟨rfl, rfl, rfl, rfl, rfl, rfl, rfl⟩ := si7 hM
    exact hret _ _ _ _ _ dX9_partBut_65 rfl rfl hP hD hS
  · have hM := g_pos c4 hM
    refine lv_aload_n hx hb dX9_partBut_7 rfl (lv_at hl 0 rfl) ?_
    refine va_get (D := D) (ci := 9) (v := .int v_sort) (C := RX9) (T := TX9) (N := 38) hx hb hts iX9 hown hK hP 0 rfl rfl 17 (by decide) k120 (fun _ h9 => h9) rfl dX9_partBut_8 ?_
    refine lv_bipush (v := 6) hx hb dX9_partBut_11 (by decide) ?_
    refine lv_icmp_ne (tgt := 52) hx hb dX9_partBut_13 (by decide) (fun c13 => ?_) (fun c13 => ?_)
    · have hM := g_neg c13 hM
      refine lv_aload_n hx hb dX9_partBut_52 rfl (lv_at hl 0 rfl) ?_
      refine lv_iconst (v := 0) hx hb dX9_partBut_53 (by decide) ?_
      refine lv_aload_n hx hb dX9_partBut_54 rfl (lv_at hl 0 rfl) ?_
      refine va_get (D := D) (ci := 9) (v := .ref h0_parts) (C := RX9) (T := TX9) (N := 38) hx hb hts iX9 hown hK hP 0 rfl rfl 3 (by decide) k13 (fun _ h9 => h9) rfl dX9_partBut_55 ?_
      refine lv_iconst (v := 1) hx hb dX9_partBut_58 (by decide) ?_
      obtain ⟨h59, hM⟩ := gi_some hM
      refine va_iald hx hb hK hP 2 2 rfl rfl h59 dX9_partBut_59 ?_
      refine lv_iconst (v := 1) hx hb dX9_partBut_60 (by decide) ?_
      refine lv_isub hx hb dX9_partBut_61 ?_
      obtain ⟨r62, v_at_62, v_start_62, v_sort_62, v_value_62, v_fault_62, v_faultAt_62, hc62, hM⟩ := ob7_some hM
      refine cl_vi (As := [.int (0 : Int32), .int ((v_parts (1 : Int32).toNatClampNeg) - (1 : Int32))]) (rest := []) (ci := 9) (q0 := 0) (wr := [(h0_parts, .inl (cy 2, 2, .inl v_parts))]) (ws2 := [(h0, .inr (9, [oh0_0, .ref h0_text, .int v_typed, .ref h0_parts, oh0_4, oh0_5, oh0_6, oh0_7, oh0_8, oh0_9, oh0_10, oh0_11, oh0_12, oh0_13, oh0_14, .int v_at_62, .int v_start_62, .int v_sort_62, .int v_value_62, .int v_fault_62, .int v_faultAt_62, oh0_21, oh0_22, oh0_23, oh0_24, oh0_25, oh0_26, oh0_27, oh0_28, oh0_29, oh0_30, oh0_31, oh0_32, oh0_33, oh0_34, oh0_35, oh0_36, oh0_37])), (h0_text, .inl (cy 0, 500, .inl v_text)), (h0_parts, .inl (cy 2, 2, .inl v_parts))]) (isC := [0, 1]) (isR := [2]) (pm := [1, 2, 0]) hx hb hml hown hts (c9_number l D cy N h0 h0_text oh0_0 (.ref h0_parts) oh0_4 oh0_5 oh0_6 oh0_7 oh0_8 oh0_9 oh0_10 oh0_11 oh0_12 oh0_13 oh0_14 oh0_21 oh0_22 oh0_23 oh0_24 oh0_25 oh0_26 oh0_27 oh0_28 oh0_29 oh0_30 oh0_31 oh0_32 oh0_33 oh0_34 oh0_35 oh0_36 oh0_37 (0 : Int32) ((v_parts (1 : Int32).toNatClampNeg) - (1 : Int32)) v_typed v_at v_start v_sort v_value v_fault v_faultAt v_text r62 v_at_62 v_start_62 v_sort_62 v_value_62 v_fault_62 v_faultAt_62 hc62) (cwV 2 hts gX9_partBut_X9_number rfl rfl rfl (by decide +kernel) ⟨Nat.le_of_ble_eq_true rfl, Nat.le_of_ble_eq_true rfl⟩) hK hP hD hS hA rfl rfl rfl rfl rfl (by decide) rfl rfl rfl hl.1 (Nat.le_of_ble_eq_true rfl) dX9_partBut_62 ⟨Nat.zero_le _, Nat.zero_le _⟩ rfl rfl (fun H locs hP hD hS => ?_)
      obtain ⟨rfl, rfl, rfl, rfl, rfl, rfl, rfl⟩ := si7 hM
      exact hret _ _ _ _ _ dX9_partBut_65 rfl rfl hP hD hS
    · have hM := g_pos c13 hM
      refine lv_aload_n hx hb dX9_partBut_16 rfl (lv_at hl 0 rfl) ?_
      refine va_get (D := D) (ci := 9) (v := .int v_value) (C := RX9) (T := TX9) (N := 38) hx hb hts iX9 hown hK hP 0 rfl rfl 18 (by decide) k117 (fun _ h9 => h9) rfl dX9_partBut_17 ?_
      refine lv_iconst (v := 0) hx hb dX9_partBut_20 (by decide) ?_
      refine lv_aload_n hx hb dX9_partBut_21 rfl (lv_at hl 0 rfl) ?_
      refine va_get (D := D) (ci := 9) (v := .ref h0_parts) (C := RX9) (T := TX9) (N := 38) hx hb hts iX9 hown hK hP 0 rfl rfl 3 (by decide) k13 (fun _ h9 => h9) rfl dX9_partBut_22 ?_
      refine lv_iconst (v := 1) hx hb dX9_partBut_25 (by decide) ?_
      obtain ⟨h26, hM⟩ := gi_some hM
      refine va_iald hx hb hK hP 2 2 rfl rfl h26 dX9_partBut_26 ?_
      refine lv_iconst (v := 1) hx hb dX9_partBut_27 (by decide) ?_
      refine lv_isub hx hb dX9_partBut_28 ?_
      obtain ⟨r29, hc29, hM⟩ := ob1_some hM
      refine cl_si (As := [.int v_value, .int (0 : Int32), .int ((v_parts (1 : Int32).toNatClampNeg) - (1 : Int32))]) (rest := []) (wr := [(h0, .inr (9, [oh0_0, .ref h0_text, .int v_typed, .ref h0_parts, oh0_4, oh0_5, oh0_6, oh0_7, oh0_8, oh0_9, oh0_10, oh0_11, oh0_12, oh0_13, oh0_14, .int v_at, .int v_start, .int v_sort, .int v_value, .int v_fault, .int v_faultAt, oh0_21, oh0_22, oh0_23, oh0_24, oh0_25, oh0_26, oh0_27, oh0_28, oh0_29, oh0_30, oh0_31, oh0_32, oh0_33, oh0_34, oh0_35, oh0_36, oh0_37])), (h0_text, .inl (cy 0, 500, .inl v_text)), (h0_parts, .inl (cy 2, 2, .inl v_parts))]) (ws2 := [(h0, .inr (9, [oh0_0, .ref h0_text, .int v_typed, .ref h0_parts, oh0_4, oh0_5, oh0_6, oh0_7, oh0_8, oh0_9, oh0_10, oh0_11, oh0_12, oh0_13, oh0_14, .int v_at, .int v_start, .int v_sort, .int v_value, .int v_fault, .int v_faultAt, oh0_21, oh0_22, oh0_23, oh0_24, oh0_25, oh0_26, oh0_27, oh0_28, oh0_29, oh0_30, oh0_31, oh0_32, oh0_33, oh0_34, oh0_35, oh0_36, oh0_37])), (h0_text, .inl (cy 0, 500, .inl v_text)), (h0_parts, .inl (cy 2, 2, .inl v_parts))]) (isC := []) (isR := [0, 1, 2]) (pm := [0, 1, 2]) hx hb hml hown hts (c9_in l D cy N v_value (0 : Int32) ((v_parts (1 : Int32).toNatClampNeg) - (1 : Int32)) r29 hc29) (va_cwS 3 hts gX9_partBut_X9_in rfl rfl rfl (by decide +kernel) ⟨Nat.le_of_ble_eq_true rfl, Nat.le_of_ble_eq_true rfl⟩) hK hP hD hS hA rfl rfl rfl (by decide) rfl rfl rfl hl.1 (Nat.le_of_ble_eq_true rfl) dX9_partBut_29 ⟨Nat.zero_le _, Nat.zero_le _⟩ rfl rfl (fun H locs hP hD hS => ?_)
      refine lv_if_eq (tgt := 52) hx hb dX9_partBut_32 (by decide) (fun c32 => ?_) (fun c32 => ?_)
      · have hM := g_pos c32 hM
        refine lv_aload_n hx hb dX9_partBut_52 rfl (lv_at hl 0 rfl) ?_
        refine lv_iconst (v := 0) hx hb dX9_partBut_53 (by decide) ?_
        refine lv_aload_n hx hb dX9_partBut_54 rfl (lv_at hl 0 rfl) ?_
        refine va_get (D := D) (ci := 9) (v := .ref h0_parts) (C := RX9) (T := TX9) (N := 38) hx hb hts iX9 hown hK hP 0 rfl rfl 3 (by decide) k13 (fun _ h9 => h9) rfl dX9_partBut_55 ?_
        refine lv_iconst (v := 1) hx hb dX9_partBut_58 (by decide) ?_
        obtain ⟨h59, hM⟩ := gi_some hM
        refine va_iald hx hb hK hP 2 2 rfl rfl h59 dX9_partBut_59 ?_
        refine lv_iconst (v := 1) hx hb dX9_partBut_60 (by decide) ?_
        refine lv_isub hx hb dX9_partBut_61 ?_
        obtain ⟨r62, v_at_62, v_start_62, v_sort_62, v_value_62, v_fault_62, v_faultAt_62, hc62, hM⟩ := ob7_some hM
        refine cl_vi (As := [.int (0 : Int32), .int ((v_parts (1 : Int32).toNatClampNeg) - (1 : Int32))]) (rest := []) (ci := 9) (q0 := 0) (wr := [(h0_parts, .inl (cy 2, 2, .inl v_parts))]) (ws2 := [(h0, .inr (9, [oh0_0, .ref h0_text, .int v_typed, .ref h0_parts, oh0_4, oh0_5, oh0_6, oh0_7, oh0_8, oh0_9, oh0_10, oh0_11, oh0_12, oh0_13, oh0_14, .int v_at_62, .int v_start_62, .int v_sort_62, .int v_value_62, .int v_fault_62, .int v_faultAt_62, oh0_21, oh0_22, oh0_23, oh0_24, oh0_25, oh0_26, oh0_27, oh0_28, oh0_29, oh0_30, oh0_31, oh0_32, oh0_33, oh0_34, oh0_35, oh0_36, oh0_37])), (h0_text, .inl (cy 0, 500, .inl v_text)), (h0_parts, .inl (cy 2, 2, .inl v_parts))]) (isC := [0, 1]) (isR := [2]) (pm := [1, 2, 0]) hx hb hml hown hts (c9_number l D cy N h0 h0_text oh0_0 (.ref h0_parts) oh0_4 oh0_5 oh0_6 oh0_7 oh0_8 oh0_9 oh0_10 oh0_11 oh0_12 oh0_13 oh0_14 oh0_21 oh0_22 oh0_23 oh0_24 oh0_25 oh0_26 oh0_27 oh0_28 oh0_29 oh0_30 oh0_31 oh0_32 oh0_33 oh0_34 oh0_35 oh0_36 oh0_37 (0 : Int32) ((v_parts (1 : Int32).toNatClampNeg) - (1 : Int32)) v_typed v_at v_start v_sort v_value v_fault v_faultAt v_text r62 v_at_62 v_start_62 v_sort_62 v_value_62 v_fault_62 v_faultAt_62 hc62) (cwV 2 hts gX9_partBut_X9_number rfl rfl rfl (by decide +kernel) ⟨Nat.le_of_ble_eq_true rfl, Nat.le_of_ble_eq_true rfl⟩) hK hP hD hS hA rfl rfl rfl rfl rfl (by decide) rfl rfl rfl hl.1 (Nat.le_of_ble_eq_true rfl) dX9_partBut_62 ⟨Nat.zero_le _, Nat.zero_le _⟩ rfl rfl (fun H locs hP hD hS => ?_)
        obtain ⟨rfl, rfl, rfl, rfl, rfl, rfl, rfl⟩ := si7 hM
        exact hret _ _ _ _ _ dX9_partBut_65 rfl rfl hP hD hS
      · have hM := g_neg c32 hM
        refine lv_iload_n hx hb dX9_partBut_35 rfl (lv_at hl 1 rfl) ?_
        refine lv_aload_n hx hb dX9_partBut_36 rfl (lv_at hl 0 rfl) ?_
        refine va_get (D := D) (ci := 9) (v := .int v_value) (C := RX9) (T := TX9) (N := 38) hx hb hts iX9 hown hK hP 0 rfl rfl 18 (by decide) k117 (fun _ h9 => h9) rfl dX9_partBut_37 ?_
        refine lv_ishr hx hb dX9_partBut_40 ?_
        refine lv_iconst (v := 1) hx hb dX9_partBut_41 (by decide) ?_
        refine lv_iand hx hb dX9_partBut_42 ?_
        refine lv_iconst (v := 1) hx hb dX9_partBut_43 (by decide) ?_
        refine lv_icmp_ne (tgt := 52) hx hb dX9_partBut_44 (by decide) (fun c44 => ?_) (fun c44 => ?_)
        · have hM := g_neg c44 hM
          refine lv_aload_n hx hb dX9_partBut_52 rfl (lv_at hl 0 rfl) ?_
          refine lv_iconst (v := 0) hx hb dX9_partBut_53 (by decide) ?_
          refine lv_aload_n hx hb dX9_partBut_54 rfl (lv_at hl 0 rfl) ?_
          refine va_get (D := D) (ci := 9) (v := .ref h0_parts) (C := RX9) (T := TX9) (N := 38) hx hb hts iX9 hown hK hP 0 rfl rfl 3 (by decide) k13 (fun _ h9 => h9) rfl dX9_partBut_55 ?_
          refine lv_iconst (v := 1) hx hb dX9_partBut_58 (by decide) ?_
          obtain ⟨h59, hM⟩ := gi_some hM
          refine va_iald hx hb hK hP 2 2 rfl rfl h59 dX9_partBut_59 ?_
          refine lv_iconst (v := 1) hx hb dX9_partBut_60 (by decide) ?_
          refine lv_isub hx hb dX9_partBut_61 ?_
          obtain ⟨r62, v_at_62, v_start_62, v_sort_62, v_value_62, v_fault_62, v_faultAt_62, hc62, hM⟩ := ob7_some hM
          refine cl_vi (As := [.int (0 : Int32), .int ((v_parts (1 : Int32).toNatClampNeg) - (1 : Int32))]) (rest := []) (ci := 9) (q0 := 0) (wr := [(h0_parts, .inl (cy 2, 2, .inl v_parts))]) (ws2 := [(h0, .inr (9, [oh0_0, .ref h0_text, .int v_typed, .ref h0_parts, oh0_4, oh0_5, oh0_6, oh0_7, oh0_8, oh0_9, oh0_10, oh0_11, oh0_12, oh0_13, oh0_14, .int v_at_62, .int v_start_62, .int v_sort_62, .int v_value_62, .int v_fault_62, .int v_faultAt_62, oh0_21, oh0_22, oh0_23, oh0_24, oh0_25, oh0_26, oh0_27, oh0_28, oh0_29, oh0_30, oh0_31, oh0_32, oh0_33, oh0_34, oh0_35, oh0_36, oh0_37])), (h0_text, .inl (cy 0, 500, .inl v_text)), (h0_parts, .inl (cy 2, 2, .inl v_parts))]) (isC := [0, 1]) (isR := [2]) (pm := [1, 2, 0]) hx hb hml hown hts (c9_number l D cy N h0 h0_text oh0_0 (.ref h0_parts) oh0_4 oh0_5 oh0_6 oh0_7 oh0_8 oh0_9 oh0_10 oh0_11 oh0_12 oh0_13 oh0_14 oh0_21 oh0_22 oh0_23 oh0_24 oh0_25 oh0_26 oh0_27 oh0_28 oh0_29 oh0_30 oh0_31 oh0_32 oh0_33 oh0_34 oh0_35 oh0_36 oh0_37 (0 : Int32) ((v_parts (1 : Int32).toNatClampNeg) - (1 : Int32)) v_typed v_at v_start v_sort v_value v_fault v_faultAt v_text r62 v_at_62 v_start_62 v_sort_62 v_value_62 v_fault_62 v_faultAt_62 hc62) (cwV 2 hts gX9_partBut_X9_number rfl rfl rfl (by decide +kernel) ⟨Nat.le_of_ble_eq_true rfl, Nat.le_of_ble_eq_true rfl⟩) hK hP hD hS hA rfl rfl rfl rfl rfl (by decide) rfl rfl rfl hl.1 (Nat.le_of_ble_eq_true rfl) dX9_partBut_62 ⟨Nat.zero_le _, Nat.zero_le _⟩ rfl rfl (fun H locs hP hD hS => ?_)
          obtain ⟨rfl, rfl, rfl, rfl, rfl, rfl, rfl⟩ := si7 hM
          exact hret _ _ _ _ _ dX9_partBut_65 rfl rfl hP hD hS
        · have hM := g_pos c44 hM
          refine lv_aload_n hx hb dX9_partBut_47 rfl (lv_at hl 0 rfl) ?_
          refine lv_iconst (v := 4) hx hb dX9_partBut_48 (by decide) ?_
          obtain ⟨v_fault_49, v_faultAt_49, hc49, hM⟩ := ob2_some hM
          refine cl_vv (As := [.int (4 : Int32)]) (rest := []) (ci := 9) (q0 := 0) (wr := [(h0_text, .inl (cy 0, 500, .inl v_text)), (h0_parts, .inl (cy 2, 2, .inl v_parts))]) (ws2 := [(h0, .inr (9, [oh0_0, .ref h0_text, .int v_typed, .ref h0_parts, oh0_4, oh0_5, oh0_6, oh0_7, oh0_8, oh0_9, oh0_10, oh0_11, oh0_12, oh0_13, oh0_14, .int v_at, .int v_start, .int v_sort, .int v_value, .int v_fault_49, .int v_faultAt_49, oh0_21, oh0_22, oh0_23, oh0_24, oh0_25, oh0_26, oh0_27, oh0_28, oh0_29, oh0_30, oh0_31, oh0_32, oh0_33, oh0_34, oh0_35, oh0_36, oh0_37])), (h0_text, .inl (cy 0, 500, .inl v_text)), (h0_parts, .inl (cy 2, 2, .inl v_parts))]) (isC := [0]) (isR := [1, 2]) (pm := [2, 0, 1]) hx hb hml hown hts (c9_fails l D cy N h0 oh0_0 (.ref h0_text) (.int v_typed) (.ref h0_parts) oh0_4 oh0_5 oh0_6 oh0_7 oh0_8 oh0_9 oh0_10 oh0_11 oh0_12 oh0_13 oh0_14 (.int v_at) (.int v_sort) (.int v_value) oh0_21 oh0_22 oh0_23 oh0_24 oh0_25 oh0_26 oh0_27 oh0_28 oh0_29 oh0_30 oh0_31 oh0_32 oh0_33 oh0_34 oh0_35 oh0_36 oh0_37 (4 : Int32) v_start v_fault v_faultAt v_fault_49 v_faultAt_49 hc49) (cwV 1 hts gX9_partBut_X9_fails rfl rfl rfl (by decide +kernel) ⟨Nat.le_of_ble_eq_true rfl, Nat.le_of_ble_eq_true rfl⟩) hK hP hD hS hA rfl rfl rfl rfl rfl (by decide) rfl rfl rfl hl.1 (Nat.le_of_ble_eq_true rfl) dX9_partBut_49 ⟨Nat.zero_le _, Nat.zero_le _⟩ rfl rfl (fun H locs hP hD hS => ?_)
          refine lv_aload_n hx hb dX9_partBut_52 rfl (lv_at hl 0 rfl) ?_
          refine lv_iconst (v := 0) hx hb dX9_partBut_53 (by decide) ?_
          refine lv_aload_n hx hb dX9_partBut_54 rfl (lv_at hl 0 rfl) ?_
          refine va_get (D := D) (ci := 9) (v := .ref h0_parts) (C := RX9) (T := TX9) (N := 38) hx hb hts iX9 hown hK hP 0 rfl rfl 3 (by decide) k13 (fun _ h9 => h9) rfl dX9_partBut_55 ?_
          refine lv_iconst (v := 1) hx hb dX9_partBut_58 (by decide) ?_
          obtain ⟨h59, hM⟩ := gi_some hM
          refine va_iald hx hb hK hP 2 2 rfl rfl h59 dX9_partBut_59 ?_
          refine lv_iconst (v := 1) hx hb dX9_partBut_60 (by decide) ?_
          refine lv_isub hx hb dX9_partBut_61 ?_
          obtain ⟨r62, v_at_62, v_start_62, v_sort_62, v_value_62, v_fault_62, v_faultAt_62, hc62, hM⟩ := ob7_some hM
          refine cl_vi (As := [.int (0 : Int32), .int ((v_parts (1 : Int32).toNatClampNeg) - (1 : Int32))]) (rest := []) (ci := 9) (q0 := 0) (wr := [(h0_parts, .inl (cy 2, 2, .inl v_parts))]) (ws2 := [(h0, .inr (9, [oh0_0, .ref h0_text, .int v_typed, .ref h0_parts, oh0_4, oh0_5, oh0_6, oh0_7, oh0_8, oh0_9, oh0_10, oh0_11, oh0_12, oh0_13, oh0_14, .int v_at_62, .int v_start_62, .int v_sort_62, .int v_value_62, .int v_fault_62, .int v_faultAt_62, oh0_21, oh0_22, oh0_23, oh0_24, oh0_25, oh0_26, oh0_27, oh0_28, oh0_29, oh0_30, oh0_31, oh0_32, oh0_33, oh0_34, oh0_35, oh0_36, oh0_37])), (h0_text, .inl (cy 0, 500, .inl v_text)), (h0_parts, .inl (cy 2, 2, .inl v_parts))]) (isC := [0, 1]) (isR := [2]) (pm := [1, 2, 0]) hx hb hml hown hts (c9_number l D cy N h0 h0_text oh0_0 (.ref h0_parts) oh0_4 oh0_5 oh0_6 oh0_7 oh0_8 oh0_9 oh0_10 oh0_11 oh0_12 oh0_13 oh0_14 oh0_21 oh0_22 oh0_23 oh0_24 oh0_25 oh0_26 oh0_27 oh0_28 oh0_29 oh0_30 oh0_31 oh0_32 oh0_33 oh0_34 oh0_35 oh0_36 oh0_37 (0 : Int32) ((v_parts (1 : Int32).toNatClampNeg) - (1 : Int32)) v_typed v_at v_start v_sort v_value v_fault_49 v_faultAt_49 v_text r62 v_at_62 v_start_62 v_sort_62 v_value_62 v_fault_62 v_faultAt_62 hc62) (cwV 2 hts gX9_partBut_X9_number rfl rfl rfl (by decide +kernel) ⟨Nat.le_of_ble_eq_true rfl, Nat.le_of_ble_eq_true rfl⟩) hK hP hD hS hA rfl rfl rfl rfl rfl (by decide) rfl rfl rfl hl.1 (Nat.le_of_ble_eq_true rfl) dX9_partBut_62 ⟨Nat.zero_le _, Nat.zero_le _⟩ rfl rfl (fun H locs hP hD hS => ?_)
          obtain ⟨rfl, rfl, rfl, rfl, rfl, rfl, rfl⟩ := si7 hM
          exact hret _ _ _ _ _ dX9_partBut_65 rfl rfl hP hD hS

-- ===== X9_isTooMany isTooMany (I)Z =====
abbrev r9_isTooMany : Room := { frames := 0, cells := 0, slots := 0, locals := 0 }
def f9_isTooMany (N : Nat) (p1 : Int32) (v_hasInterest : Int32) (v_parts : Nat → Int32) (v_wayMany : Nat → Int32) (v_persons : Nat → Int32) (v_winters : Nat → Int32) : Option Int32 :=
  if p1 = (0 : Int32) then (gi (1 : Int32) 2 (if (v_parts (1 : Int32).toNatClampNeg) = (7 : Int32) then (some (1 : Int32)) else (some (0 : Int32)))) else (if p1 = (1 : Int32) then (some (0 : Int32)) else (if p1 = (2 : Int32) then (gi (1 : Int32) 2 (if (v_wayMany (1 : Int32).toNatClampNeg) = (12 : Int32) then (some (1 : Int32)) else (some (0 : Int32)))) else (if p1 = (3 : Int32) then (gi (1 : Int32) 2 (if (v_persons (1 : Int32).toNatClampNeg) = (6 : Int32) then (some (1 : Int32)) else (some (0 : Int32)))) else (if p1 = (4 : Int32) then (gb v_hasInterest (some v_hasInterest)) else (if p1 = (5 : Int32) then (gi (1 : Int32) 2 (if (v_winters (1 : Int32).toNatClampNeg) = (5 : Int32) then (some (1 : Int32)) else (some (0 : Int32)))) else (some (0 : Int32)))))))
set_option maxHeartbeats 4000000 in
set_option maxRecDepth 100000 in
theorem c9_isTooMany (l : Launch) (D : va_G) (cy : Nat → ClassId) (N : Nat) (h0 h0_parts h0_wayMany h0_persons h0_winters : Nat) (oh0_0 oh0_1 oh0_2 oh0_4 oh0_5 oh0_7 oh0_9 oh0_10 oh0_11 oh0_13 oh0_14 oh0_15 oh0_16 oh0_17 oh0_18 oh0_19 oh0_20 oh0_22 oh0_23 oh0_24 oh0_25 oh0_26 oh0_27 oh0_28 oh0_29 oh0_30 oh0_31 oh0_32 oh0_33 oh0_34 oh0_35 oh0_36 oh0_37 : Value) (p1 : Int32) (v_hasInterest : Int32) (v_parts : Nat → Int32) (v_wayMany : Nat → Int32) (v_persons : Nat → Int32) (v_winters : Nat → Int32) (r : Int32) (hM : f9_isTooMany N p1 v_hasInterest v_parts v_wayMany v_persons v_winters = some r) (sz : Nat) : CTi l yX9_isTooMany wsX9_isTooMany r9_isTooMany [.ref h0, .int p1] D cy sz [(h0, .inr (9, [oh0_0, oh0_1, oh0_2, .ref h0_parts, oh0_4, oh0_5, .ref h0_wayMany, oh0_7, .ref h0_persons, oh0_9, oh0_10, oh0_11, .ref h0_winters, oh0_13, oh0_14, oh0_15, oh0_16, oh0_17, oh0_18, oh0_19, oh0_20, .int v_hasInterest, oh0_22, oh0_23, oh0_24, oh0_25, oh0_26, oh0_27, oh0_28, oh0_29, oh0_30, oh0_31, oh0_32, oh0_33, oh0_34, oh0_35, oh0_36, oh0_37])), (h0_parts, .inl (cy 2, 2, .inl v_parts)), (h0_wayMany, .inl (cy 2, 2, .inl v_wayMany)), (h0_persons, .inl (cy 2, 2, .inl v_persons)), (h0_winters, .inl (cy 2, 2, .inl v_winters))] [(h0, .inr (9, [oh0_0, oh0_1, oh0_2, .ref h0_parts, oh0_4, oh0_5, .ref h0_wayMany, oh0_7, .ref h0_persons, oh0_9, oh0_10, oh0_11, .ref h0_winters, oh0_13, oh0_14, oh0_15, oh0_16, oh0_17, oh0_18, oh0_19, oh0_20, .int v_hasInterest, oh0_22, oh0_23, oh0_24, oh0_25, oh0_26, oh0_27, oh0_28, oh0_29, oh0_30, oh0_31, oh0_32, oh0_33, oh0_34, oh0_35, oh0_36, oh0_37])), (h0_parts, .inl (cy 2, 2, .inl v_parts)), (h0_wayMany, .inl (cy 2, 2, .inl v_wayMany)), (h0_persons, .inl (cy 2, 2, .inl v_persons)), (h0_winters, .inl (cy 2, 2, .inl v_winters))] r := by
  unfold f9_isTooMany at hM
  refine ct_oi (cc := cX9_isTooMany) (maxL := 2) (ty := .boolean) (by decide +kernel) rfl (Nat.le_of_ble_eq_true rfl) (lv0 := [(0, .ref h0), (1, .int p1)]) rfl ?_
  intro p e s m args below meth c A Q ls hx hb hts hown hml hK hP hD hS hA hret hl
  have hown : s.vm.findClass RX9 = some m.cls := hown
  have k41 := hts (.fieldLink RX9 41 "CaveYearsModel" "winters" "[I") (List.mem_of_getElem? (i := 5) (by decide +kernel))
  have iX9 := (fun w h => (List.mem_cons_of_mem _ (List.mem_append_right _ h)) : ∀ w ∈ wsX90, w ∈ wsX9_isTooMany)
  have k141 := hts (.fieldLink RX9 141 "CaveYearsModel" "hasInterest" "Z") (List.mem_of_getElem? (i := 4) (by decide +kernel))
  have k29 := hts (.fieldLink RX9 29 "CaveYearsModel" "persons" "[I") (List.mem_of_getElem? (i := 3) (by decide +kernel))
  have k23 := hts (.fieldLink RX9 23 "CaveYearsModel" "wayMany" "[I") (List.mem_of_getElem? (i := 2) (by decide +kernel))
  have k13 := hts (.fieldLink RX9 13 "CaveYearsModel" "parts" "[I") (List.mem_of_getElem? (i := 1) (by decide +kernel))
  refine lv_iload_n hx hb dX9_isTooMany_0 rfl (lv_at hl 1 rfl) ?_
  rcases Classical.em (p1 = (0 : Int32)) with c1_0 | c1_0
  · have hM := g_pos c1_0 hM
    refine lv_tableIn (off := 39) (tgt := 40) hx hb dX9_isTooMany_1 (by rw [c1_0]; decide) (by rw [c1_0]; decide) (by rw [c1_0]; decide) (by decide) ?_
    refine lv_aload_n hx hb dX9_isTooMany_40 rfl (lv_at hl 0 rfl) ?_
    refine va_get (D := D) (ci := 9) (v := .ref h0_parts) (C := RX9) (T := TX9) (N := 38) hx hb hts iX9 hown hK hP 0 rfl rfl 3 (by decide) k13 (fun _ h9 => h9) rfl dX9_isTooMany_41 ?_
    refine lv_iconst (v := 1) hx hb dX9_isTooMany_44 (by decide) ?_
    obtain ⟨h45, hM⟩ := gi_some hM
    refine va_iald hx hb hK hP 1 2 rfl rfl h45 dX9_isTooMany_45 ?_
    refine lv_bipush (v := 7) hx hb dX9_isTooMany_46 (by decide) ?_
    refine lv_icmp_ne (tgt := 55) hx hb dX9_isTooMany_48 (by decide) (fun c48 => ?_) (fun c48 => ?_)
    · have hM := g_neg c48 hM
      refine lv_iconst (v := 0) hx hb dX9_isTooMany_55 (by decide) ?_
      obtain rfl := si1 hM
      exact hret _ _ _ _ _ dX9_isTooMany_56 rfl rfl hP hD hS
    · have hM := g_pos c48 hM
      refine lv_iconst (v := 1) hx hb dX9_isTooMany_51 (by decide) ?_
      refine lv_goto (tgt := 56) hx hb dX9_isTooMany_52 (by decide) ?_
      obtain rfl := si1 hM
      exact hret _ _ _ _ _ dX9_isTooMany_56 rfl rfl hP hD hS
  · have hM := g_neg c1_0 hM
    rcases Classical.em (p1 = (1 : Int32)) with c1_1 | c1_1
    · have hM := g_pos c1_1 hM
      refine lv_tableIn (off := 111) (tgt := 112) hx hb dX9_isTooMany_1 (by rw [c1_1]; decide) (by rw [c1_1]; decide) (by rw [c1_1]; decide) (by decide) ?_
      refine lv_iconst (v := 0) hx hb dX9_isTooMany_112 (by decide) ?_
      obtain rfl := si1 hM
      exact hret _ _ _ _ _ dX9_isTooMany_113 rfl rfl hP hD hS
    · have hM := g_neg c1_1 hM
      rcases Classical.em (p1 = (2 : Int32)) with c1_2 | c1_2
      · have hM := g_pos c1_2 hM
        refine lv_tableIn (off := 56) (tgt := 57) hx hb dX9_isTooMany_1 (by rw [c1_2]; decide) (by rw [c1_2]; decide) (by rw [c1_2]; decide) (by decide) ?_
        refine lv_aload_n hx hb dX9_isTooMany_57 rfl (lv_at hl 0 rfl) ?_
        refine va_get (D := D) (ci := 9) (v := .ref h0_wayMany) (C := RX9) (T := TX9) (N := 38) hx hb hts iX9 hown hK hP 0 rfl rfl 6 (by decide) k23 (fun _ h9 => h9) rfl dX9_isTooMany_58 ?_
        refine lv_iconst (v := 1) hx hb dX9_isTooMany_61 (by decide) ?_
        obtain ⟨h62, hM⟩ := gi_some hM
        refine va_iald hx hb hK hP 2 2 rfl rfl h62 dX9_isTooMany_62 ?_
        refine lv_bipush (v := 12) hx hb dX9_isTooMany_63 (by decide) ?_
        refine lv_icmp_ne (tgt := 72) hx hb dX9_isTooMany_65 (by decide) (fun c65 => ?_) (fun c65 => ?_)
        · have hM := g_neg c65 hM
          refine lv_iconst (v := 0) hx hb dX9_isTooMany_72 (by decide) ?_
          obtain rfl := si1 hM
          exact hret _ _ _ _ _ dX9_isTooMany_73 rfl rfl hP hD hS
        · have hM := g_pos c65 hM
          refine lv_iconst (v := 1) hx hb dX9_isTooMany_68 (by decide) ?_
          refine lv_goto (tgt := 73) hx hb dX9_isTooMany_69 (by decide) ?_
          obtain rfl := si1 hM
          exact hret _ _ _ _ _ dX9_isTooMany_73 rfl rfl hP hD hS
      · have hM := g_neg c1_2 hM
        rcases Classical.em (p1 = (3 : Int32)) with c1_3 | c1_3
        · have hM := g_pos c1_3 hM
          refine lv_tableIn (off := 73) (tgt := 74) hx hb dX9_isTooMany_1 (by rw [c1_3]; decide) (by rw [c1_3]; decide) (by rw [c1_3]; decide) (by decide) ?_
          refine lv_aload_n hx hb dX9_isTooMany_74 rfl (lv_at hl 0 rfl) ?_
          refine va_get (D := D) (ci := 9) (v := .ref h0_persons) (C := RX9) (T := TX9) (N := 38) hx hb hts iX9 hown hK hP 0 rfl rfl 8 (by decide) k29 (fun _ h9 => h9) rfl dX9_isTooMany_75 ?_
          refine lv_iconst (v := 1) hx hb dX9_isTooMany_78 (by decide) ?_
          obtain ⟨h79, hM⟩ := gi_some hM
          refine va_iald hx hb hK hP 3 2 rfl rfl h79 dX9_isTooMany_79 ?_
          refine lv_bipush (v := 6) hx hb dX9_isTooMany_80 (by decide) ?_
          refine lv_icmp_ne (tgt := 89) hx hb dX9_isTooMany_82 (by decide) (fun c82 => ?_) (fun c82 => ?_)
          · have hM := g_neg c82 hM
            refine lv_iconst (v := 0) hx hb dX9_isTooMany_89 (by decide) ?_
            obtain rfl := si1 hM
            exact hret _ _ _ _ _ dX9_isTooMany_90 rfl rfl hP hD hS
          · have hM := g_pos c82 hM
            refine lv_iconst (v := 1) hx hb dX9_isTooMany_85 (by decide) ?_
            refine lv_goto (tgt := 90) hx hb dX9_isTooMany_86 (by decide) ?_
            obtain rfl := si1 hM
            exact hret _ _ _ _ _ dX9_isTooMany_90 rfl rfl hP hD hS
        · have hM := g_neg c1_3 hM
          rcases Classical.em (p1 = (4 : Int32)) with c1_4 | c1_4
          · have hM := g_pos c1_4 hM
            refine lv_tableIn (off := 90) (tgt := 91) hx hb dX9_isTooMany_1 (by rw [c1_4]; decide) (by rw [c1_4]; decide) (by rw [c1_4]; decide) (by decide) ?_
            refine lv_aload_n hx hb dX9_isTooMany_91 rfl (lv_at hl 0 rfl) ?_
            refine va_get (D := D) (ci := 9) (v := .int v_hasInterest) (C := RX9) (T := TX9) (N := 38) hx hb hts iX9 hown hK hP 0 rfl rfl 21 (by decide) k141 (fun _ h9 => h9) rfl dX9_isTooMany_92 ?_
            obtain ⟨hz95, hM⟩ := gb_some hM
            obtain rfl := si1 hM
            exact hret _ _ _ _ _ dX9_isTooMany_95 rfl hz95 hP hD hS
          · have hM := g_neg c1_4 hM
            rcases Classical.em (p1 = (5 : Int32)) with c1_5 | c1_5
            · have hM := g_pos c1_5 hM
              refine lv_tableIn (off := 95) (tgt := 96) hx hb dX9_isTooMany_1 (by rw [c1_5]; decide) (by rw [c1_5]; decide) (by rw [c1_5]; decide) (by decide) ?_
              refine lv_aload_n hx hb dX9_isTooMany_96 rfl (lv_at hl 0 rfl) ?_
              refine va_get (D := D) (ci := 9) (v := .ref h0_winters) (C := RX9) (T := TX9) (N := 38) hx hb hts iX9 hown hK hP 0 rfl rfl 12 (by decide) k41 (fun _ h9 => h9) rfl dX9_isTooMany_97 ?_
              refine lv_iconst (v := 1) hx hb dX9_isTooMany_100 (by decide) ?_
              obtain ⟨h101, hM⟩ := gi_some hM
              refine va_iald hx hb hK hP 4 2 rfl rfl h101 dX9_isTooMany_101 ?_
              refine lv_iconst (v := 5) hx hb dX9_isTooMany_102 (by decide) ?_
              refine lv_icmp_ne (tgt := 110) hx hb dX9_isTooMany_103 (by decide) (fun c103 => ?_) (fun c103 => ?_)
              · have hM := g_neg c103 hM
                refine lv_iconst (v := 0) hx hb dX9_isTooMany_110 (by decide) ?_
                obtain rfl := si1 hM
                exact hret _ _ _ _ _ dX9_isTooMany_111 rfl rfl hP hD hS
              · have hM := g_pos c103 hM
                refine lv_iconst (v := 1) hx hb dX9_isTooMany_106 (by decide) ?_
                refine lv_goto (tgt := 111) hx hb dX9_isTooMany_107 (by decide) ?_
                obtain rfl := si1 hM
                exact hret _ _ _ _ _ dX9_isTooMany_111 rfl rfl hP hD hS
            · have hM := g_neg c1_5 hM
              have n1_0 : p1.toInt ≠ 0 := fun q => c1_0 (Int32.toInt_inj.mp (q.trans (by decide)))
              have n1_1 : p1.toInt ≠ 1 := fun q => c1_1 (Int32.toInt_inj.mp (q.trans (by decide)))
              have n1_2 : p1.toInt ≠ 2 := fun q => c1_2 (Int32.toInt_inj.mp (q.trans (by decide)))
              have n1_3 : p1.toInt ≠ 3 := fun q => c1_3 (Int32.toInt_inj.mp (q.trans (by decide)))
              have n1_4 : p1.toInt ≠ 4 := fun q => c1_4 (Int32.toInt_inj.mp (q.trans (by decide)))
              have n1_5 : p1.toInt ≠ 5 := fun q => c1_5 (Int32.toInt_inj.mp (q.trans (by decide)))
              refine lv_tableOut (tgt := 112) hx hb dX9_isTooMany_1 (by omega) (by decide) ?_
              refine lv_iconst (v := 0) hx hb dX9_isTooMany_112 (by decide) ?_
              obtain rfl := si1 hM
              exact hret _ _ _ _ _ dX9_isTooMany_113 rfl rfl hP hD hS
