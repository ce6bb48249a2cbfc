-- ===== X9_fewest fewest (I)I =====
abbrev r9_fewest : Room := { frames := 4, cells := 0, slots := 0, locals := 93 }
def f9_fewest (N : Nat) (p1 : Int32) (v_lines : Int32) (v_lineDate : Nat → Int32) (v_lineAge : Nat → Int32) (v_man : Nat → Int32) (v_bestMan : Nat → Int32) : Option (Int32 × (Nat → Int32) × (Nat → Int32)) :=
  ob1 (f9_in N p1 (-1 : Int32) (v_lines - (1 : Int32))) fun r8 => if r8 = (0 : Int32) then (some ((-1000000002 : Int32), v_man, v_bestMan)) else (ob3 (f9_findFewest N v_lines v_lineDate v_lineAge v_man v_bestMan) fun r18 v_man_18 v_bestMan_18 => if p1 = (-1 : Int32) then (some (r18, v_man_18, v_bestMan_18)) else (gi p1 8 (some ((v_bestMan_18 p1.toNatClampNeg), v_man_18, v_bestMan_18))))
set_option maxHeartbeats 4000000 in
set_option maxRecDepth 100000 in
theorem c9_fewest (l : Launch) (D : va_G) (cy : Nat → ClassId) (N : Nat) (h0 h0_lineDate h0_lineAge h0_man h0_bestMan : Nat) (oh0_0 oh0_1 oh0_2 oh0_3 oh0_4 oh0_5 oh0_6 oh0_7 oh0_8 oh0_9 oh0_10 oh0_11 oh0_12 oh0_13 oh0_14 oh0_15 oh0_16 oh0_17 oh0_18 oh0_19 oh0_20 oh0_21 oh0_22 oh0_23 oh0_24 oh0_25 oh0_26 oh0_27 oh0_28 oh0_29 oh0_30 oh0_31 oh0_32 : Value) (p1 : Int32) (v_lines : Int32) (v_lineDate : Nat → Int32) (v_lineAge : Nat → Int32) (v_man : Nat → Int32) (v_bestMan : Nat → Int32) (r : Int32) (nv_man : Nat → Int32) (nv_bestMan : Nat → Int32) (hM : f9_fewest N p1 v_lines v_lineDate v_lineAge v_man v_bestMan = some (r, nv_man, nv_bestMan)) (sz : Nat) : CTi l yX9_fewest wsX9_fewest r9_fewest [.ref h0, .int p1] D cy sz [(h0, .inr (9, [oh0_0, oh0_1, oh0_2, oh0_3, oh0_4, oh0_5, oh0_6, oh0_7, oh0_8, oh0_9, oh0_10, oh0_11, oh0_12, oh0_13, oh0_14, oh0_15, oh0_16, oh0_17, oh0_18, oh0_19, oh0_20, oh0_21, oh0_22, oh0_23, oh0_24, oh0_25, oh0_26, oh0_27, oh0_28, oh0_29, oh0_30, oh0_31, oh0_32, .ref h0_lineDate, .ref h0_lineAge, .int v_lines, .ref h0_man, .ref h0_bestMan])), (h0_lineDate, .inl (cy 2, 8, .inl v_lineDate)), (h0_lineAge, .inl (cy 2, 8, .inl v_lineAge)), (h0_man, .inl (cy 2, 8, .inl v_man)), (h0_bestMan, .inl (cy 2, 8, .inl v_bestMan))] [(h0, .inr (9, [oh0_0, oh0_1, oh0_2, oh0_3, oh0_4, oh0_5, oh0_6, oh0_7, oh0_8, oh0_9, oh0_10, oh0_11, oh0_12, oh0_13, oh0_14, oh0_15, oh0_16, oh0_17, oh0_18, oh0_19, oh0_20, oh0_21, oh0_22, oh0_23, oh0_24, oh0_25, oh0_26, oh0_27, oh0_28, oh0_29, oh0_30, oh0_31, oh0_32, .ref h0_lineDate, .ref h0_lineAge, .int v_lines, .ref h0_man, .ref h0_bestMan])), (h0_lineDate, .inl (cy 2, 8, .inl v_lineDate)), (h0_lineAge, .inl (cy 2, 8, .inl v_lineAge)), (h0_man, .inl (cy 2, 8, .inl nv_man)), (h0_bestMan, .inl (cy 2, 8, .inl nv_bestMan))] r := by
  unfold f9_fewest at hM
  refine ct_oi (cc := cX9_fewest) (maxL := 3) (ty := .int) (by decide +kernel) rfl (Nat.le_of_ble_eq_true rfl) (lv0 := [(0, .ref h0), (1, .int p1)]) rfl ?_
  intro p e s m args below meth c A Q ls hx hb hts hown hml hK hP hD hS hA hret hl
  have hown : s.vm.findClass RX9 = some m.cls := hown
  have k165 := hts (.fieldLink RX9 165 "CaveYearsModel" "lines" "I") (List.mem_of_getElem? (i := 1) (by decide +kernel))
  have iX9 := (fun w h => (List.mem_cons_of_mem _ (List.mem_append_right _ h)) : ∀ w ∈ wsX90, w ∈ wsX9_fewest)
  have k88 := hts (.fieldLink RX9 88 "CaveYearsModel" "bestMan" "[I") (List.mem_of_getElem? (i := 3) (by decide +kernel))
  have k99 := hts (.constant RX9 99 (-1000000002)) (List.mem_of_getElem? (i := 2) (by decide +kernel))
  refine lv_iload_n hx hb dX9_fewest_0 rfl (lv_at hl 1 rfl) ?_
  refine lv_iconst (v := -1) hx hb dX9_fewest_1 (by decide) ?_
  refine lv_aload_n hx hb dX9_fewest_2 rfl (lv_at hl 0 rfl) ?_
  refine va_get (D := D) (ci := 9) (v := .int v_lines) (C := RX9) (T := TX9) (N := 38) hx hb hts iX9 hown hK hP 0 rfl rfl 35 (by decide) k165 (fun _ h9 => h9) rfl dX9_fewest_3 ?_
  refine lv_iconst (v := 1) hx hb dX9_fewest_6 (by decide) ?_
  refine lv_isub hx hb dX9_fewest_7 ?_
  obtain ⟨r8, hc8, hM⟩ := ob1_some hM
  refine cl_si (As := [.int p1, .int (-1 : Int32), .int (v_lines - (1 : Int32))]) (rest := []) (wr := [(h0, .inr (9, [oh0_0, oh0_1, oh0_2, oh0_3, oh0_4, oh0_5, oh0_6, oh0_7, oh0_8, oh0_9, oh0_10, oh0_11, oh0_12, oh0_13, oh0_14, oh0_15, oh0_16, oh0_17, oh0_18, oh0_19, oh0_20, oh0_21, oh0_22, oh0_23, oh0_24, oh0_25, oh0_26, oh0_27, oh0_28, oh0_29, oh0_30, oh0_31, oh0_32, .ref h0_lineDate, .ref h0_lineAge, .int v_lines, .ref h0_man, .ref h0_bestMan])), (h0_lineDate, .inl (cy 2, 8, .inl v_lineDate)), (h0_lineAge, .inl (cy 2, 8, .inl v_lineAge)), (h0_man, .inl (cy 2, 8, .inl v_man)), (h0_bestMan, .inl (cy 2, 8, .inl v_bestMan))]) (ws2 := [(h0, .inr (9, [oh0_0, oh0_1, oh0_2, oh0_3, oh0_4, oh0_5, oh0_6, oh0_7, oh0_8, oh0_9, oh0_10, oh0_11, oh0_12, oh0_13, oh0_14, oh0_15, oh0_16, oh0_17, oh0_18, oh0_19, oh0_20, oh0_21, oh0_22, oh0_23, oh0_24, oh0_25, oh0_26, oh0_27, oh0_28, oh0_29, oh0_30, oh0_31, oh0_32, .ref h0_lineDate, .ref h0_lineAge, .int v_lines, .ref h0_man, .ref h0_bestMan])), (h0_lineDate, .inl (cy 2, 8, .inl v_lineDate)), (h0_lineAge, .inl (cy 2, 8, .inl v_lineAge)), (h0_man, .inl (cy 2, 8, .inl v_man)), (h0_bestMan, .inl (cy 2, 8, .inl v_bestMan))]) (isC := []) (isR := [0, 1, 2, 3, 4]) (pm := [0, 1, 2, 3, 4]) hx hb hml hown hts (c9_in l D cy N p1 (-1 : Int32) (v_lines - (1 : Int32)) r8 hc8) (va_cwS 3 hts gX9_fewest_X9_in rfl rfl rfl (by decide +kernel) ⟨Nat.le_of_ble_eq_true rfl, Nat.le_of_ble_eq_true rfl⟩) hK hP hD hS hA rfl rfl rfl (by decide) rfl rfl rfl hl.1 (Nat.le_of_ble_eq_true rfl) dX9_fewest_8 ⟨Nat.zero_le _, Nat.zero_le _⟩ rfl rfl (fun H locs hP hD hS => ?_)
  refine lv_if_ne (tgt := 17) hx hb dX9_fewest_11 (by decide) (fun c11 => ?_) (fun c11 => ?_)
  · have hM := g_neg c11 hM
    refine lv_aload_n hx hb dX9_fewest_17 rfl (lv_at hl 0 rfl) ?_
    obtain ⟨r18, v_man_18, v_bestMan_18, hc18, hM⟩ := ob3_some hM
    refine cl_vi (As := []) (rest := []) (ci := 9) (q0 := 0) (wr := []) (ws2 := [(h0, .inr (9, [oh0_0, oh0_1, oh0_2, oh0_3, oh0_4, oh0_5, oh0_6, oh0_7, oh0_8, oh0_9, oh0_10, oh0_11, oh0_12, oh0_13, oh0_14, oh0_15, oh0_16, oh0_17, oh0_18, oh0_19, oh0_20, oh0_21, oh0_22, oh0_23, oh0_24, oh0_25, oh0_26, oh0_27, oh0_28, oh0_29, oh0_30, oh0_31, oh0_32, .ref h0_lineDate, .ref h0_lineAge, .int v_lines, .ref h0_man, .ref h0_bestMan])), (h0_lineDate, .inl (cy 2, 8, .inl v_lineDate)), (h0_lineAge, .inl (cy 2, 8, .inl v_lineAge)), (h0_man, .inl (cy 2, 8, .inl v_man_18)), (h0_bestMan, .inl (cy 2, 8, .inl v_bestMan_18))]) (isC := [0, 1, 2, 3, 4]) (isR := []) (pm := [0, 1, 2, 3, 4]) hx hb hml hown hts (c9_findFewest l D cy N h0 h0_lineDate h0_lineAge h0_man h0_bestMan oh0_0 oh0_1 oh0_2 oh0_3 oh0_4 oh0_5 oh0_6 oh0_7 oh0_8 oh0_9 oh0_10 oh0_11 oh0_12 oh0_13 oh0_14 oh0_15 oh0_16 oh0_17 oh0_18 oh0_19 oh0_20 oh0_21 oh0_22 oh0_23 oh0_24 oh0_25 oh0_26 oh0_27 oh0_28 oh0_29 oh0_30 oh0_31 oh0_32 v_lines v_lineDate v_lineAge v_man v_bestMan r18 v_man_18 v_bestMan_18 hc18) (cwV 0 hts gX9_fewest_X9_findFewest rfl rfl rfl (by decide +kernel) ⟨Nat.le_of_ble_eq_true rfl, Nat.le_of_ble_eq_true rfl⟩) hK hP hD hS hA rfl rfl rfl rfl rfl (by decide) rfl rfl rfl hl.1 (Nat.le_of_ble_eq_true rfl) dX9_fewest_18 ⟨Nat.zero_le _, Nat.zero_le _⟩ rfl rfl (fun H locs hP hD hS => ?_)
    refine lv_istore_n (lv' := [(2, .int r18), (0, .ref h0), (1, .int p1)]) hx hb dX9_fewest_21 rfl hl (by decide) rfl (fun ls hl => ?_)
    refine lv_iload_n hx hb dX9_fewest_22 rfl (lv_at hl 2 rfl) ?_
    refine lv_iconst (v := -1) hx hb dX9_fewest_23 (by decide) ?_
    refine lv_icmp_ne (tgt := 31) hx hb dX9_fewest_24 (by decide) (fun c24 => ?_) (fun c24 => ?_)
    · have hM := g_neg c24 hM
      refine lv_aload_n hx hb dX9_fewest_31 rfl (lv_at hl 1 rfl) ?_
      refine va_get (D := D) (ci := 9) (v := .ref h0_bestMan) (C := RX9) (T := TX9) (N := 38) hx hb hts iX9 hown hK hP 0 rfl rfl 37 (by decide) k88 (fun _ h9 => h9) rfl dX9_fewest_32 ?_
      refine lv_iload_n hx hb dX9_fewest_35 rfl (lv_at hl 2 rfl) ?_
      obtain ⟨h36, hM⟩ := gi_some hM
      refine va_iald hx hb hK hP 4 2 rfl rfl h36 dX9_fewest_36 ?_
      obtain ⟨rfl, rfl, rfl⟩ := si3 hM
      exact hret _ _ _ _ _ dX9_fewest_37 rfl rfl hP hD hS
    · have hM := g_pos c24 hM
      refine lv_iload_n hx hb dX9_fewest_27 rfl (lv_at hl 0 rfl) ?_
      refine lv_goto (tgt := 37) hx hb dX9_fewest_28 (by decide) ?_
      obtain ⟨rfl, rfl, rfl⟩ := si3 hM
      exact hret _ _ _ _ _ dX9_fewest_37 rfl rfl hP hD hS
  · have hM := g_pos c11 hM
    refine lv_ldc (v := -1000000002) hx hb hown k99 dX9_fewest_14 ?_
    obtain ⟨rfl, rfl, rfl⟩ := si3 hM
    exact hret _ _ _ _ _ dX9_fewest_16 rfl rfl hP hD hS

-- ===== X9_tear tear ()I =====
abbrev r9_tear : Room := { frames := 0, cells := 0, slots := 0, locals := 0 }
def f9_tear (N : Nat) (v_tries : Int32) (v_lines : Int32) : Option (Int32 × Int32 × Int32) :=
  some ((v_tries + v_lines), (0 : Int32), (0 : Int32))
set_option maxHeartbeats 4000000 in
set_option maxRecDepth 100000 in
theorem c9_tear (l : Launch) (D : va_G) (cy : Nat → ClassId) (N : Nat) (h0 : Nat) (oh0_0 oh0_1 oh0_2 oh0_3 oh0_4 oh0_5 oh0_6 oh0_7 oh0_8 oh0_9 oh0_10 oh0_11 oh0_12 oh0_13 oh0_14 oh0_15 oh0_16 oh0_17 oh0_18 oh0_19 oh0_20 oh0_21 oh0_22 oh0_23 oh0_24 oh0_25 oh0_26 oh0_27 oh0_28 oh0_29 oh0_30 oh0_31 oh0_33 oh0_34 oh0_36 oh0_37 : Value) (v_tries : Int32) (v_lines : Int32) (r : Int32) (nv_tries : Int32) (nv_lines : Int32) (hM : f9_tear N v_tries v_lines = some (r, nv_tries, nv_lines)) (sz : Nat) : CTi l yX9_tear wsX9_tear r9_tear [.ref h0] D cy sz [(h0, .inr (9, [oh0_0, oh0_1, oh0_2, oh0_3, oh0_4, oh0_5, oh0_6, oh0_7, oh0_8, oh0_9, oh0_10, oh0_11, oh0_12, oh0_13, oh0_14, oh0_15, oh0_16, oh0_17, oh0_18, oh0_19, oh0_20, oh0_21, oh0_22, oh0_23, oh0_24, oh0_25, oh0_26, oh0_27, oh0_28, oh0_29, oh0_30, oh0_31, .int v_tries, oh0_33, oh0_34, .int v_lines, oh0_36, oh0_37]))] [(h0, .inr (9, [oh0_0, oh0_1, oh0_2, oh0_3, oh0_4, oh0_5, oh0_6, oh0_7, oh0_8, oh0_9, oh0_10, oh0_11, oh0_12, oh0_13, oh0_14, oh0_15, oh0_16, oh0_17, oh0_18, oh0_19, oh0_20, oh0_21, oh0_22, oh0_23, oh0_24, oh0_25, oh0_26, oh0_27, oh0_28, oh0_29, oh0_30, oh0_31, .int nv_tries, oh0_33, oh0_34, .int nv_lines, oh0_36, oh0_37]))] r := by
  unfold f9_tear at hM
  refine ct_oi (cc := cX9_tear) (maxL := 2) (ty := .int) (by decide +kernel) rfl (Nat.le_of_ble_eq_true rfl) (lv0 := [(0, .ref h0)]) rfl ?_
  intro p e s m args below meth c A Q ls hx hb hts hown hml hK hP hD hS hA hret hl
  have hown : s.vm.findClass RX9 = some m.cls := hown
  have k162 := hts (.fieldLink RX9 162 "CaveYearsModel" "tries" "I") (List.mem_of_getElem? (i := 1) (by decide +kernel))
  have iX9 := (fun w h => (List.mem_cons_of_mem _ (List.mem_append_right _ h)) : ∀ w ∈ wsX90, w ∈ wsX9_tear)
  have k165 := hts (.fieldLink RX9 165 "CaveYearsModel" "lines" "I") (List.mem_of_getElem? (i := 2) (by decide +kernel))
  refine lv_aload_n hx hb dX9_tear_0 rfl (lv_at hl 0 rfl) ?_
  refine va_get (D := D) (ci := 9) (v := .int v_tries) (C := RX9) (T := TX9) (N := 38) hx hb hts iX9 hown hK hP 0 rfl rfl 32 (by decide) k162 (fun _ h9 => h9) rfl dX9_tear_1 ?_
  refine lv_aload_n hx hb dX9_tear_4 rfl (lv_at hl 0 rfl) ?_
  refine va_get (D := D) (ci := 9) (v := .int v_lines) (C := RX9) (T := TX9) (N := 38) hx hb hts iX9 hown hK hP 0 rfl rfl 35 (by decide) k165 (fun _ h9 => h9) rfl dX9_tear_5 ?_
  refine lv_iadd hx hb dX9_tear_8 ?_
  refine lv_istore_n (lv' := [(1, .int (v_tries + v_lines)), (0, .ref h0)]) hx hb dX9_tear_9 rfl hl (by decide) rfl (fun ls hl => ?_)
  refine lv_aload_n hx hb dX9_tear_10 rfl (lv_at hl 1 rfl) ?_
  refine lv_iconst (v := 0) hx hb dX9_tear_11 (by decide) ?_
  refine va_put (D := D) (ci := 9) (v := .int (0 : Int32)) (ty := .int) (C := RX9) (T := TX9) (N := 38) hx hb hts iX9 tyX9 tyX9_ok nmX9 hown hK hP hD hS 0 rfl rfl 32 (by decide) k162 (fun _ h9 => h9) rfl (by decide +kernel) rfl rfl (Nat.le_of_ble_eq_true rfl) dX9_tear_12 (fun H locs hP hD hS => ?_)
  have hP : va_P D vwCl [(h0, .inr (9, [oh0_0, oh0_1, oh0_2, oh0_3, oh0_4, oh0_5, oh0_6, oh0_7, oh0_8, oh0_9, oh0_10, oh0_11, oh0_12, oh0_13, oh0_14, oh0_15, oh0_16, oh0_17, oh0_18, oh0_19, oh0_20, oh0_21, oh0_22, oh0_23, oh0_24, oh0_25, oh0_26, oh0_27, oh0_28, oh0_29, oh0_30, oh0_31, .int (0 : Int32), oh0_33, oh0_34, .int v_lines, oh0_36, oh0_37]))] H := hP
  have hD : va_D A [(h0, .inr (9, [oh0_0, oh0_1, oh0_2, oh0_3, oh0_4, oh0_5, oh0_6, oh0_7, oh0_8, oh0_9, oh0_10, oh0_11, oh0_12, oh0_13, oh0_14, oh0_15, oh0_16, oh0_17, oh0_18, oh0_19, oh0_20, oh0_21, oh0_22, oh0_23, oh0_24, oh0_25, oh0_26, oh0_27, oh0_28, oh0_29, oh0_30, oh0_31, .int (0 : Int32), oh0_33, oh0_34, .int v_lines, oh0_36, oh0_37]))] := hD
  refine lv_aload_n hx hb dX9_tear_15 rfl (lv_at hl 1 rfl) ?_
  refine lv_iconst (v := 0) hx hb dX9_tear_16 (by decide) ?_
  refine va_put (D := D) (ci := 9) (v := .int (0 : Int32)) (ty := .int) (C := RX9) (T := TX9) (N := 38) hx hb hts iX9 tyX9 tyX9_ok nmX9 hown hK hP hD hS 0 rfl rfl 35 (by decide) k165 (fun _ h9 => h9) rfl (by decide +kernel) rfl rfl (Nat.le_of_ble_eq_true rfl) dX9_tear_17 (fun H locs hP hD hS => ?_)
  have hP : va_P D vwCl [(h0, .inr (9, [oh0_0, oh0_1, oh0_2, oh0_3, oh0_4, oh0_5, oh0_6, oh0_7, oh0_8, oh0_9, oh0_10, oh0_11, oh0_12, oh0_13, oh0_14, oh0_15, oh0_16, oh0_17, oh0_18, oh0_19, oh0_20, oh0_21, oh0_22, oh0_23, oh0_24, oh0_25, oh0_26, oh0_27, oh0_28, oh0_29, oh0_30, oh0_31, .int (0 : Int32), oh0_33, oh0_34, .int (0 : Int32), oh0_36, oh0_37]))] H := hP
  have hD : va_D A [(h0, .inr (9, [oh0_0, oh0_1, oh0_2, oh0_3, oh0_4, oh0_5, oh0_6, oh0_7, oh0_8, oh0_9, oh0_10, oh0_11, oh0_12, oh0_13, oh0_14, oh0_15, oh0_16, oh0_17, oh0_18, oh0_19, oh0_20, oh0_21, oh0_22, oh0_23, oh0_24, oh0_25, oh0_26, oh0_27, oh0_28, oh0_29, oh0_30, oh0_31, .int (0 : Int32), oh0_33, oh0_34, .int (0 : Int32), oh0_36, oh0_37]))] := hD
  refine lv_iload_n hx hb dX9_tear_20 rfl (lv_at hl 0 rfl) ?_
  obtain ⟨rfl, rfl, rfl⟩ := si3 hM
  exact hret _ _ _ _ _ dX9_tear_21 rfl rfl hP hD hS

-- ===== X9_seed seed (I)I =====
abbrev r9_seed : Room := { frames := 0, cells := 0, slots := 0, locals := 0 }
def f9_seed (N : Nat) (p1 : Int32) (v_seed : Int32) : Option (Int32 × Int32) :=
  if (0 : Int32) ≤ p1 then (some (v_seed, p1)) else (some ((-1000000002 : Int32), v_seed))
set_option maxHeartbeats 4000000 in
set_option maxRecDepth 100000 in
theorem c9_seed (l : Launch) (D : va_G) (cy : Nat → ClassId) (N : Nat) (h0 : Nat) (oh0_1 oh0_2 oh0_3 oh0_4 oh0_5 oh0_6 oh0_7 oh0_8 oh0_9 oh0_10 oh0_11 oh0_12 oh0_13 oh0_14 oh0_15 oh0_16 oh0_17 oh0_18 oh0_19 oh0_20 oh0_21 oh0_22 oh0_23 oh0_24 oh0_25 oh0_26 oh0_27 oh0_28 oh0_29 oh0_30 oh0_31 oh0_32 oh0_33 oh0_34 oh0_35 oh0_36 oh0_37 : Value) (p1 : Int32) (v_seed : Int32) (r : Int32) (nv_seed : Int32) (hM : f9_seed N p1 v_seed = some (r, nv_seed)) (sz : Nat) : CTi l yX9_seed wsX9_seed r9_seed [.ref h0, .int p1] D cy sz [(h0, .inr (9, [.int v_seed, oh0_1, oh0_2, oh0_3, oh0_4, oh0_5, oh0_6, oh0_7, oh0_8, oh0_9, oh0_10, oh0_11, oh0_12, oh0_13, oh0_14, oh0_15, oh0_16, oh0_17, oh0_18, oh0_19, oh0_20, oh0_21, oh0_22, oh0_23, oh0_24, oh0_25, oh0_26, oh0_27, oh0_28, oh0_29, oh0_30, oh0_31, oh0_32, oh0_33, oh0_34, oh0_35, oh0_36, oh0_37]))] [(h0, .inr (9, [.int nv_seed, oh0_1, oh0_2, oh0_3, oh0_4, oh0_5, oh0_6, oh0_7, oh0_8, oh0_9, oh0_10, oh0_11, oh0_12, oh0_13, oh0_14, oh0_15, oh0_16, oh0_17, oh0_18, oh0_19, oh0_20, oh0_21, oh0_22, oh0_23, oh0_24, oh0_25, oh0_26, oh0_27, oh0_28, oh0_29, oh0_30, oh0_31, oh0_32, oh0_33, oh0_34, oh0_35, oh0_36, oh0_37]))] r := by
  unfold f9_seed at hM
  refine ct_oi (cc := cX9_seed) (maxL := 3) (ty := .int) (by decide +kernel) rfl (Nat.le_of_ble_eq_true rfl) (lv0 := [(0, .ref h0), (1, .int p1)]) rfl ?_
  intro p e s m args below meth c A Q ls hx hb hts hown hml hK hP hD hS hA hret hl
  have hown : s.vm.findClass RX9 = some m.cls := hown
  have k214 := hts (.fieldLink RX9 214 "CaveYearsModel" "seed" "I") (List.mem_of_getElem? (i := 2) (by decide +kernel))
  have iX9 := (fun w h => (List.mem_cons_of_mem _ (List.mem_append_right _ h)) : ∀ w ∈ wsX90, w ∈ wsX9_seed)
  have k99 := hts (.constant RX9 99 (-1000000002)) (List.mem_of_getElem? (i := 1) (by decide +kernel))
  refine lv_iload_n hx hb dX9_seed_0 rfl (lv_at hl 1 rfl) ?_
  refine lv_if_ge (tgt := 7) hx hb dX9_seed_1 (by decide) (fun c1 => ?_) (fun c1 => ?_)
  · have hM := g_pos c1 hM
    refine lv_aload_n hx hb dX9_seed_7 rfl (lv_at hl 0 rfl) ?_
    refine va_get (D := D) (ci := 9) (v := .int v_seed) (C := RX9) (T := TX9) (N := 38) hx hb hts iX9 hown hK hP 0 rfl rfl 0 (by decide) k214 (fun _ h9 => h9) rfl dX9_seed_8 ?_
    refine lv_istore_n (lv' := [(2, .int v_seed), (0, .ref h0), (1, .int p1)]) hx hb dX9_seed_11 rfl hl (by decide) rfl (fun ls hl => ?_)
    refine lv_aload_n hx hb dX9_seed_12 rfl (lv_at hl 1 rfl) ?_
    refine lv_iload_n hx hb dX9_seed_13 rfl (lv_at hl 2 rfl) ?_
    refine va_put (D := D) (ci := 9) (v := .int p1) (ty := .int) (C := RX9) (T := TX9) (N := 38) hx hb hts iX9 tyX9 tyX9_ok nmX9 hown hK hP hD hS 0 rfl rfl 0 (by decide) k214 (fun _ h9 => h9) rfl (by decide +kernel) rfl rfl (Nat.le_of_ble_eq_true rfl) dX9_seed_14 (fun H locs hP hD hS => ?_)
    have hP : va_P D vwCl [(h0, .inr (9, [.int p1, oh0_1, oh0_2, oh0_3, oh0_4, oh0_5, oh0_6, oh0_7, oh0_8, oh0_9, oh0_10, oh0_11, oh0_12, oh0_13, oh0_14, oh0_15, oh0_16, oh0_17, oh0_18, oh0_19, oh0_20, oh0_21, oh0_22, oh0_23, oh0_24, oh0_25, oh0_26, oh0_27, oh0_28, oh0_29, oh0_30, oh0_31, oh0_32, oh0_33, oh0_34, oh0_35, oh0_36, oh0_37]))] H := hP
    have hD : va_D A [(h0, .inr (9, [.int p1, oh0_1, oh0_2, oh0_3, oh0_4, oh0_5, oh0_6, oh0_7, oh0_8, oh0_9, oh0_10, oh0_11, oh0_12, oh0_13, oh0_14, oh0_15, oh0_16, oh0_17, oh0_18, oh0_19, oh0_20, oh0_21, oh0_22, oh0_23, oh0_24, oh0_25, oh0_26, oh0_27, oh0_28, oh0_29, oh0_30, oh0_31, oh0_32, oh0_33, oh0_34, oh0_35, oh0_36, oh0_37]))] := hD
    refine lv_iload_n hx hb dX9_seed_17 rfl (lv_at hl 0 rfl) ?_
    obtain ⟨rfl, rfl⟩ := si2 hM
    exact hret _ _ _ _ _ dX9_seed_18 rfl rfl hP hD hS
  · have hM := g_neg c1 hM
    refine lv_ldc (v := -1000000002) hx hb hown k99 dX9_seed_4 ?_
    obtain ⟨rfl, rfl⟩ := si2 hM
    exact hret _ _ _ _ _ dX9_seed_6 rfl rfl hP hD hS

-- ===== X9_copy copy (II)V =====
abbrev r9_copy : Room := { frames := 0, cells := 0, slots := 0, locals := 0 }
def f9_copy_L2 (N : Nat) (p1 : Int32) (p2 : Int32) : Nat → Int32 → (Nat → Int32) → Option (Nat → Int32)
  | 0, _, _ => none
  | n + 1, x3_2, v_now_2 => if (20 : Int32) ≤ x3_2 then (some v_now_2) else (gi (p1 + x3_2) 60 (gi (p2 + x3_2) 60 ((f9_copy_L2 N p1 p2 n) (x3_2 + (1 : Int32)) (upd v_now_2 (p2 + x3_2).toNatClampNeg (v_now_2 (p1 + x3_2).toNatClampNeg)))))
def f9_copy (N : Nat) (p1 : Int32) (p2 : Int32) (v_now : Nat → Int32) : Option (Nat → Int32) :=
  ob1 (f9_copy_L2 N p1 p2 N (0 : Int32) v_now) fun v_now_e2 => some v_now_e2
set_option maxHeartbeats 4000000 in
set_option maxRecDepth 100000 in
theorem c9_copy (l : Launch) (D : va_G) (cy : Nat → ClassId) (N : Nat) (h0 h0_now : Nat) (oh0_0 oh0_1 oh0_2 oh0_3 oh0_4 oh0_5 oh0_6 oh0_7 oh0_8 oh0_9 oh0_10 oh0_11 oh0_12 oh0_13 oh0_14 oh0_15 oh0_16 oh0_17 oh0_18 oh0_19 oh0_20 oh0_21 oh0_23 oh0_24 oh0_25 oh0_26 oh0_27 oh0_28 oh0_29 oh0_30 oh0_31 oh0_32 oh0_33 oh0_34 oh0_35 oh0_36 oh0_37 : Value) (p1 : Int32) (p2 : Int32) (v_now : Nat → Int32) (nv_now : Nat → Int32) (hM : f9_copy N p1 p2 v_now = some nv_now) (sz : Nat) : CTv l yX9_copy wsX9_copy r9_copy [.ref h0, .int p1, .int p2] D cy sz [(h0, .inr (9, [oh0_0, oh0_1, oh0_2, oh0_3, oh0_4, oh0_5, oh0_6, oh0_7, oh0_8, oh0_9, oh0_10, oh0_11, oh0_12, oh0_13, oh0_14, oh0_15, oh0_16, oh0_17, oh0_18, oh0_19, oh0_20, oh0_21, .ref h0_now, oh0_23, oh0_24, oh0_25, oh0_26, oh0_27, oh0_28, oh0_29, oh0_30, oh0_31, oh0_32, oh0_33, oh0_34, oh0_35, oh0_36, oh0_37])), (h0_now, .inl (cy 2, 60, .inl v_now))] [(h0, .inr (9, [oh0_0, oh0_1, oh0_2, oh0_3, oh0_4, oh0_5, oh0_6, oh0_7, oh0_8, oh0_9, oh0_10, oh0_11, oh0_12, oh0_13, oh0_14, oh0_15, oh0_16, oh0_17, oh0_18, oh0_19, oh0_20, oh0_21, .ref h0_now, oh0_23, oh0_24, oh0_25, oh0_26, oh0_27, oh0_28, oh0_29, oh0_30, oh0_31, oh0_32, oh0_33, oh0_34, oh0_35, oh0_36, oh0_37])), (h0_now, .inl (cy 2, 60, .inl nv_now))] := by
  unfold f9_copy at hM
  refine ct_ov (cc := cX9_copy) (maxL := 4)  (by decide +kernel) rfl (Nat.le_of_ble_eq_true rfl) (lv0 := [(0, .ref h0), (1, .int p1), (2, .int p2)]) rfl ?_
  intro p e s m args below meth c A Q ls hx hb hts hown hml hK hP hD hS hA hret hl
  have hown : s.vm.findClass RX9 = some m.cls := hown
  have k50 := hts (.fieldLink RX9 50 "CaveYearsModel" "now" "[I") (List.mem_of_getElem? (i := 1) (by decide +kernel))
  have iX9 := (fun w h => (List.mem_cons_of_mem _ (List.mem_append_right _ h)) : ∀ w ∈ wsX90, w ∈ wsX9_copy)
  refine lv_iconst (v := 0) hx hb dX9_copy_0 (by decide) ?_
  refine lv_istore_n (lv' := [(3, .int (0 : Int32)), (0, .ref h0), (1, .int p1), (2, .int p2)]) hx hb dX9_copy_1 rfl hl (by decide) rfl (fun ls hl => ?_)
  have L2 : ∀ (n : Nat) (x3_2 : Int32) (v_now_2 : Nat → Int32) (v_now_e2 : Nat → Int32) (H : Heap) (locs : List Loc) (ls : Array Slot), f9_copy_L2 N p1 p2 n x3_2 v_now_2 = some v_now_e2 → va_P D vwCl [(h0, .inr (9, [oh0_0, oh0_1, oh0_2, oh0_3, oh0_4, oh0_5, oh0_6, oh0_7, oh0_8, oh0_9, oh0_10, oh0_11, oh0_12, oh0_13, oh0_14, oh0_15, oh0_16, oh0_17, oh0_18, oh0_19, oh0_20, oh0_21, .ref h0_now, oh0_23, oh0_24, oh0_25, oh0_26, oh0_27, oh0_28, oh0_29, oh0_30, oh0_31, oh0_32, oh0_33, oh0_34, oh0_35, oh0_36, oh0_37])), (h0_now, .inl (cy 2, 60, .inl v_now_2))] H → va_D A [(h0, .inr (9, [oh0_0, oh0_1, oh0_2, oh0_3, oh0_4, oh0_5, oh0_6, oh0_7, oh0_8, oh0_9, oh0_10, oh0_11, oh0_12, oh0_13, oh0_14, oh0_15, oh0_16, oh0_17, oh0_18, oh0_19, oh0_20, oh0_21, .ref h0_now, oh0_23, oh0_24, oh0_25, oh0_26, oh0_27, oh0_28, oh0_29, oh0_30, oh0_31, oh0_32, oh0_33, oh0_34, oh0_35, oh0_36, oh0_37])), (h0_now, .inl (cy 2, 60, .inl v_now_2))] → va_S A s.heap H locs → lv_has ls 4 [(0, .ref h0), (1, .int p1), (2, .int p2), (3, .int x3_2)] → (∀ (H : Heap) (locs : List Loc) (ls : Array Slot), va_P D vwCl [(h0, .inr (9, [oh0_0, oh0_1, oh0_2, oh0_3, oh0_4, oh0_5, oh0_6, oh0_7, oh0_8, oh0_9, oh0_10, oh0_11, oh0_12, oh0_13, oh0_14, oh0_15, oh0_16, oh0_17, oh0_18, oh0_19, oh0_20, oh0_21, .ref h0_now, oh0_23, oh0_24, oh0_25, oh0_26, oh0_27, oh0_28, oh0_29, oh0_30, oh0_31, oh0_32, oh0_33, oh0_34, oh0_35, oh0_36, oh0_37])), (h0_now, .inl (cy 2, 60, .inl v_now_e2))] H → va_D A [(h0, .inr (9, [oh0_0, oh0_1, oh0_2, oh0_3, oh0_4, oh0_5, oh0_6, oh0_7, oh0_8, oh0_9, oh0_10, oh0_11, oh0_12, oh0_13, oh0_14, oh0_15, oh0_16, oh0_17, oh0_18, oh0_19, oh0_20, oh0_21, .ref h0_now, oh0_23, oh0_24, oh0_25, oh0_26, oh0_27, oh0_28, oh0_29, oh0_30, oh0_31, oh0_32, oh0_33, oh0_34, oh0_35, oh0_36, oh0_37])), (h0_now, .inl (cy 2, 60, .inl v_now_e2))] → va_S A s.heap H locs → lv_has ls 4 [] → W p l e r9_copy s m args below meth c H locs 0 0 Q (F0 m 30 ls [])) → W p l e r9_copy s m args below meth c H locs 0 0 Q (F0 m 2 ls []) := by
    intro n2
    induction n2 with
    | zero =>
      intro x3_2 v_now_2 v_now_e2 H locs ls hM
      exact absurd hM (by simp [f9_copy_L2])
    | succ n2 ih2 =>
      intro x3_2 v_now_2 v_now_e2 H locs ls hM hP hD hS hl K
      rw [f9_copy_L2] at hM
      refine lv_iload_n hx hb dX9_copy_2 rfl (lv_at hl 3 rfl) ?_
      refine lv_bipush (v := 20) hx hb dX9_copy_3 (by decide) ?_
      refine lv_icmp_ge (tgt := 30) hx hb dX9_copy_5 (by decide) (fun c5 => ?_) (fun c5 => ?_)
      · have hM := g_pos c5 hM
        obtain rfl := si1 hM
        exact K _ _ _ hP hD hS (lv_sub hl [] rfl)
      · have hM := g_neg c5 hM
        refine lv_aload_n hx hb dX9_copy_8 rfl (lv_at hl 0 rfl) ?_
        refine va_get (D := D) (ci := 9) (v := .ref h0_now) (C := RX9) (T := TX9) (N := 38) hx hb hts iX9 hown hK hP 0 rfl rfl 22 (by decide) k50 (fun _ h9 => h9) rfl dX9_copy_9 ?_
        refine lv_iload_n hx hb dX9_copy_12 rfl (lv_at hl 2 rfl) ?_
        refine lv_iload_n hx hb dX9_copy_13 rfl (lv_at hl 3 rfl) ?_
        refine lv_iadd hx hb dX9_copy_14 ?_
        refine lv_aload_n hx hb dX9_copy_15 rfl (lv_at hl 0 rfl) ?_
        refine va_get (D := D) (ci := 9) (v := .ref h0_now) (C := RX9) (T := TX9) (N := 38) hx hb hts iX9 hown hK hP 0 rfl rfl 22 (by decide) k50 (fun _ h9 => h9) rfl dX9_copy_16 ?_
        refine lv_iload_n hx hb dX9_copy_19 rfl (lv_at hl 1 rfl) ?_
        refine lv_iload_n hx hb dX9_copy_20 rfl (lv_at hl 3 rfl) ?_
        refine lv_iadd hx hb dX9_copy_21 ?_
        obtain ⟨h22, hM⟩ := gi_some hM
        refine va_iald hx hb hK hP 1 2 rfl rfl h22 dX9_copy_22 ?_
        obtain ⟨h23, hM⟩ := gi_some hM
        refine va_iast hx hb hK hP hD hS 1 2 rfl rfl h23 dX9_copy_23 (fun H locs hP hD hS => ?_)
        have hP : va_P D vwCl [(h0, .inr (9, [oh0_0, oh0_1, oh0_2, oh0_3, oh0_4, oh0_5, oh0_6, oh0_7, oh0_8, oh0_9, oh0_10, oh0_11, oh0_12, oh0_13, oh0_14, oh0_15, oh0_16, oh0_17, oh0_18, oh0_19, oh0_20, oh0_21, .ref h0_now, oh0_23, oh0_24, oh0_25, oh0_26, oh0_27, oh0_28, oh0_29, oh0_30, oh0_31, oh0_32, oh0_33, oh0_34, oh0_35, oh0_36, oh0_37])), (h0_now, .inl (cy 2, 60, .inl (upd v_now_2 (p2 + x3_2).toNatClampNeg (v_now_2 (p1 + x3_2).toNatClampNeg))))] H := hP
        have hD : va_D A [(h0, .inr (9, [oh0_0, oh0_1, oh0_2, oh0_3, oh0_4, oh0_5, oh0_6, oh0_7, oh0_8, oh0_9, oh0_10, oh0_11, oh0_12, oh0_13, oh0_14, oh0_15, oh0_16, oh0_17, oh0_18, oh0_19, oh0_20, oh0_21, .ref h0_now, oh0_23, oh0_24, oh0_25, oh0_26, oh0_27, oh0_28, oh0_29, oh0_30, oh0_31, oh0_32, oh0_33, oh0_34, oh0_35, oh0_36, oh0_37])), (h0_now, .inl (cy 2, 60, .inl (upd v_now_2 (p2 + x3_2).toNatClampNeg (v_now_2 (p1 + x3_2).toNatClampNeg))))] := hD
        refine lv_iinc (v := x3_2 + (1 : Int32)) (lv' := [(3, .int (x3_2 + (1 : Int32))), (0, .ref h0), (1, .int p1), (2, .int p2)]) hx hb dX9_copy_24 hl (k := 3) rfl rfl (by decide) rfl (fun ls hl => ?_)
        refine lv_goto (tgt := 2) hx hb dX9_copy_27 (by decide) ?_
        exact ih2 (x3_2 + (1 : Int32)) (upd v_now_2 (p2 + x3_2).toNatClampNeg (v_now_2 (p1 + x3_2).toNatClampNeg)) v_now_e2 _ _ _ hM hP hD hS (lv_sub hl [1, 2, 3, 0] rfl) K
  obtain ⟨v_now_e2, hL2, hM⟩ := ob1_some hM
  refine L2 N (0 : Int32) v_now v_now_e2 _ _ _ hL2 hP hD hS (lv_sub hl [1, 2, 3, 0] rfl) ?_
  intro H locs ls hP hD hS hl
  obtain rfl := si1 hM
  exact hret _ _ _ _ dX9_copy_30 hP hD hS

-- ===== X9_keep keep (I)I =====
abbrev r9_keep : Room := { frames := 1, cells := 0, slots := 0, locals := 23 }
def f9_keep (N : Nat) (p1 : Int32) (v_seed : Int32) (v_now : Nat → Int32) (v_isKept : Nat → Int32) : Option (Int32 × (Nat → Int32) × (Nat → Int32)) :=
  ob1 (f9_in N p1 (0 : Int32) (1 : Int32)) fun r3 => if r3 = (0 : Int32) then (some ((-1000000001 : Int32), v_now, v_isKept)) else (gi (19 : Int32) 60 (ob1 (f9_copy N (0 : Int32) ((20 : Int32) * ((1 : Int32) + p1)) (upd v_now (19 : Int32).toNatClampNeg v_seed)) fun v_now_31 => gi p1 2 (some ((1 : Int32), v_now_31, (upd v_isKept p1.toNatClampNeg (vp_nar .boolean (1 : Int32)))))))
set_option maxHeartbeats 4000000 in
set_option maxRecDepth 100000 in
theorem c9_keep (l : Launch) (D : va_G) (cy : Nat → ClassId) (N : Nat) (h0 h0_now h0_isKept : Nat) (oh0_1 oh0_2 oh0_3 oh0_4 oh0_5 oh0_6 oh0_7 oh0_8 oh0_9 oh0_10 oh0_11 oh0_12 oh0_13 oh0_14 oh0_15 oh0_16 oh0_17 oh0_18 oh0_19 oh0_20 oh0_21 oh0_24 oh0_25 oh0_26 oh0_27 oh0_28 oh0_29 oh0_30 oh0_31 oh0_32 oh0_33 oh0_34 oh0_35 oh0_36 oh0_37 : Value) (p1 : Int32) (v_seed : Int32) (v_now : Nat → Int32) (v_isKept : Nat → Int32) (r : Int32) (nv_now : Nat → Int32) (nv_isKept : Nat → Int32) (hM : f9_keep N p1 v_seed v_now v_isKept = some (r, nv_now, nv_isKept)) (sz : Nat) : CTi l yX9_keep wsX9_keep r9_keep [.ref h0, .int p1] D cy sz [(h0, .inr (9, [.int v_seed, oh0_1, oh0_2, oh0_3, oh0_4, oh0_5, oh0_6, oh0_7, oh0_8, oh0_9, oh0_10, oh0_11, oh0_12, oh0_13, oh0_14, oh0_15, oh0_16, oh0_17, oh0_18, oh0_19, oh0_20, oh0_21, .ref h0_now, .ref h0_isKept, oh0_24, oh0_25, oh0_26, oh0_27, oh0_28, oh0_29, oh0_30, oh0_31, oh0_32, oh0_33, oh0_34, oh0_35, oh0_36, oh0_37])), (h0_now, .inl (cy 2, 60, .inl v_now)), (h0_isKept, .inl (cy 4, 2, .inl v_isKept))] [(h0, .inr (9, [.int v_seed, oh0_1, oh0_2, oh0_3, oh0_4, oh0_5, oh0_6, oh0_7, oh0_8, oh0_9, oh0_10, oh0_11, oh0_12, oh0_13, oh0_14, oh0_15, oh0_16, oh0_17, oh0_18, oh0_19, oh0_20, oh0_21, .ref h0_now, .ref h0_isKept, oh0_24, oh0_25, oh0_26, oh0_27, oh0_28, oh0_29, oh0_30, oh0_31, oh0_32, oh0_33, oh0_34, oh0_35, oh0_36, oh0_37])), (h0_now, .inl (cy 2, 60, .inl nv_now)), (h0_isKept, .inl (cy 4, 2, .inl nv_isKept))] r := by
  unfold f9_keep at hM
  refine ct_oi (cc := cX9_keep) (maxL := 2) (ty := .int) (by decide +kernel) rfl (Nat.le_of_ble_eq_true rfl) (lv0 := [(0, .ref h0), (1, .int p1)]) rfl ?_
  intro p e s m args below meth c A Q ls hx hb hts hown hml hK hP hD hS hA hret hl
  have hown : s.vm.findClass RX9 = some m.cls := hown
  have k50 := hts (.fieldLink RX9 50 "CaveYearsModel" "now" "[I") (List.mem_of_getElem? (i := 2) (by decide +kernel))
  have iX9 := (fun w h => (List.mem_cons_of_mem _ (List.mem_append_right _ h)) : ∀ w ∈ wsX90, w ∈ wsX9_keep)
  have k214 := hts (.fieldLink RX9 214 "CaveYearsModel" "seed" "I") (List.mem_of_getElem? (i := 3) (by decide +kernel))
  have k53 := hts (.fieldLink RX9 53 "CaveYearsModel" "isKept" "[Z") (List.mem_of_getElem? (i := 4) (by decide +kernel))
  have k180 := hts (.constant RX9 180 (-1000000001)) (List.mem_of_getElem? (i := 1) (by decide +kernel))
  refine lv_iload_n hx hb dX9_keep_0 rfl (lv_at hl 1 rfl) ?_
  refine lv_iconst (v := 0) hx hb dX9_keep_1 (by decide) ?_
  refine lv_iconst (v := 1) hx hb dX9_keep_2 (by decide) ?_
  obtain ⟨r3, hc3, hM⟩ := ob1_some hM
  refine cl_si (As := [.int p1, .int (0 : Int32), .int (1 : Int32)]) (rest := []) (wr := [(h0, .inr (9, [.int v_seed, oh0_1, oh0_2, oh0_3, oh0_4, oh0_5, oh0_6, oh0_7, oh0_8, oh0_9, oh0_10, oh0_11, oh0_12, oh0_13, oh0_14, oh0_15, oh0_16, oh0_17, oh0_18, oh0_19, oh0_20, oh0_21, .ref h0_now, .ref h0_isKept, oh0_24, oh0_25, oh0_26, oh0_27, oh0_28, oh0_29, oh0_30, oh0_31, oh0_32, oh0_33, oh0_34, oh0_35, oh0_36, oh0_37])), (h0_now, .inl (cy 2, 60, .inl v_now)), (h0_isKept, .inl (cy 4, 2, .inl v_isKept))]) (ws2 := [(h0, .inr (9, [.int v_seed, oh0_1, oh0_2, oh0_3, oh0_4, oh0_5, oh0_6, oh0_7, oh0_8, oh0_9, oh0_10, oh0_11, oh0_12, oh0_13, oh0_14, oh0_15, oh0_16, oh0_17, oh0_18, oh0_19, oh0_20, oh0_21, .ref h0_now, .ref h0_isKept, oh0_24, oh0_25, oh0_26, oh0_27, oh0_28, oh0_29, oh0_30, oh0_31, oh0_32, oh0_33, oh0_34, oh0_35, oh0_36, oh0_37])), (h0_now, .inl (cy 2, 60, .inl v_now)), (h0_isKept, .inl (cy 4, 2, .inl v_isKept))]) (isC := []) (isR := [0, 1, 2]) (pm := [0, 1, 2]) hx hb hml hown hts (c9_in l D cy N p1 (0 : Int32) (1 : Int32) r3 hc3) (va_cwS 3 hts gX9_keep_X9_in rfl rfl rfl (by decide +kernel) ⟨Nat.le_of_ble_eq_true rfl, Nat.le_of_ble_eq_true rfl⟩) hK hP hD hS hA rfl rfl rfl (by decide) rfl rfl rfl hl.1 (Nat.le_of_ble_eq_true rfl) dX9_keep_3 ⟨Nat.zero_le _, Nat.zero_le _⟩ rfl rfl (fun H locs hP hD hS => ?_)
  refine lv_if_ne (tgt := 12) hx hb dX9_keep_6 (by decide) (fun c6 => ?_) (fun c6 => ?_)
  · have hM := g_neg c6 hM
    refine lv_aload_n hx hb dX9_keep_12 rfl (lv_at hl 0 rfl) ?_
    refine va_get (D := D) (ci := 9) (v := .ref h0_now) (C := RX9) (T := TX9) (N := 38) hx hb hts iX9 hown hK hP 0 rfl rfl 22 (by decide) k50 (fun _ h9 => h9) rfl dX9_keep_13 ?_
    refine lv_bipush (v := 19) hx hb dX9_keep_16 (by decide) ?_
    refine lv_aload_n hx hb dX9_keep_18 rfl (lv_at hl 0 rfl) ?_
    refine va_get (D := D) (ci := 9) (v := .int v_seed) (C := RX9) (T := TX9) (N := 38) hx hb hts iX9 hown hK hP 0 rfl rfl 0 (by decide) k214 (fun _ h9 => h9) rfl dX9_keep_19 ?_
    obtain ⟨h22, hM⟩ := gi_some hM
    refine va_iast hx hb hK hP hD hS 1 2 rfl rfl h22 dX9_keep_22 (fun H locs hP hD hS => ?_)
    have hP : va_P D vwCl [(h0, .inr (9, [.int v_seed, oh0_1, oh0_2, oh0_3, oh0_4, oh0_5, oh0_6, oh0_7, oh0_8, oh0_9, oh0_10, oh0_11, oh0_12, oh0_13, oh0_14, oh0_15, oh0_16, oh0_17, oh0_18, oh0_19, oh0_20, oh0_21, .ref h0_now, .ref h0_isKept, oh0_24, oh0_25, oh0_26, oh0_27, oh0_28, oh0_29, oh0_30, oh0_31, oh0_32, oh0_33, oh0_34, oh0_35, oh0_36, oh0_37])), (h0_now, .inl (cy 2, 60, .inl (upd v_now (19 : Int32).toNatClampNeg v_seed))), (h0_isKept, .inl (cy 4, 2, .inl v_isKept))] H := hP
    have hD : va_D A [(h0, .inr (9, [.int v_seed, oh0_1, oh0_2, oh0_3, oh0_4, oh0_5, oh0_6, oh0_7, oh0_8, oh0_9, oh0_10, oh0_11, oh0_12, oh0_13, oh0_14, oh0_15, oh0_16, oh0_17, oh0_18, oh0_19, oh0_20, oh0_21, .ref h0_now, .ref h0_isKept, oh0_24, oh0_25, oh0_26, oh0_27, oh0_28, oh0_29, oh0_30, oh0_31, oh0_32, oh0_33, oh0_34, oh0_35, oh0_36, oh0_37])), (h0_now, .inl (cy 2, 60, .inl (upd v_now (19 : Int32).toNatClampNeg v_seed))), (h0_isKept, .inl (cy 4, 2, .inl v_isKept))] := hD
    refine lv_aload_n hx hb dX9_keep_23 rfl (lv_at hl 0 rfl) ?_
    refine lv_iconst (v := 0) hx hb dX9_keep_24 (by decide) ?_
    refine lv_bipush (v := 20) hx hb dX9_keep_25 (by decide) ?_
    refine lv_iconst (v := 1) hx hb dX9_keep_27 (by decide) ?_
    refine lv_iload_n hx hb dX9_keep_28 rfl (lv_at hl 1 rfl) ?_
    refine lv_iadd hx hb dX9_keep_29 ?_
    refine lv_imul hx hb dX9_keep_30 ?_
    obtain ⟨v_now_31, hc31, hM⟩ := ob1_some hM
    refine cl_vv (As := [.int (0 : Int32), .int ((20 : Int32) * ((1 : Int32) + p1))]) (rest := []) (ci := 9) (q0 := 0) (wr := [(h0_isKept, .inl (cy 4, 2, .inl v_isKept))]) (ws2 := [(h0, .inr (9, [.int v_seed, oh0_1, oh0_2, oh0_3, oh0_4, oh0_5, oh0_6, oh0_7, oh0_8, oh0_9, oh0_10, oh0_11, oh0_12, oh0_13, oh0_14, oh0_15, oh0_16, oh0_17, oh0_18, oh0_19, oh0_20, oh0_21, .ref h0_now, .ref h0_isKept, oh0_24, oh0_25, oh0_26, oh0_27, oh0_28, oh0_29, oh0_30, oh0_31, oh0_32, oh0_33, oh0_34, oh0_35, oh0_36, oh0_37])), (h0_now, .inl (cy 2, 60, .inl v_now_31)), (h0_isKept, .inl (cy 4, 2, .inl v_isKept))]) (isC := [0, 1]) (isR := [2]) (pm := [1, 2, 0]) hx hb hml hown hts (c9_copy l D cy N h0 h0_now (.int v_seed) oh0_1 oh0_2 oh0_3 oh0_4 oh0_5 oh0_6 oh0_7 oh0_8 oh0_9 oh0_10 oh0_11 oh0_12 oh0_13 oh0_14 oh0_15 oh0_16 oh0_17 oh0_18 oh0_19 oh0_20 oh0_21 (.ref h0_isKept) oh0_24 oh0_25 oh0_26 oh0_27 oh0_28 oh0_29 oh0_30 oh0_31 oh0_32 oh0_33 oh0_34 oh0_35 oh0_36 oh0_37 (0 : Int32) ((20 : Int32) * ((1 : Int32) + p1)) (upd v_now (19 : Int32).toNatClampNeg v_seed) v_now_31 hc31) (cwV 2 hts gX9_keep_X9_copy rfl rfl rfl (by decide +kernel) ⟨Nat.le_of_ble_eq_true rfl, Nat.le_of_ble_eq_true rfl⟩) hK hP hD hS hA rfl rfl rfl rfl rfl (by decide) rfl rfl rfl hl.1 (Nat.le_of_ble_eq_true rfl) dX9_keep_31 ⟨Nat.zero_le _, Nat.zero_le _⟩ rfl rfl (fun H locs hP hD hS => ?_)
    refine lv_aload_n hx hb dX9_keep_34 rfl (lv_at hl 0 rfl) ?_
    refine va_get (D := D) (ci := 9) (v := .ref h0_isKept) (C := RX9) (T := TX9) (N := 38) hx hb hts iX9 hown hK hP 0 rfl rfl 23 (by decide) k53 (fun _ h9 => h9) rfl dX9_keep_35 ?_
    refine lv_iload_n hx hb dX9_keep_38 rfl (lv_at hl 1 rfl) ?_
    refine lv_iconst (v := 1) hx hb dX9_keep_39 (by decide) ?_
    obtain ⟨h40, hM⟩ := gi_some hM
    refine va_zast hx hb hK hP hD hS 2 4 rfl rfl h40 dX9_keep_40 (fun H locs hP hD hS => ?_)
    have hP : va_P D vwCl [(h0, .inr (9, [.int v_seed, oh0_1, oh0_2, oh0_3, oh0_4, oh0_5, oh0_6, oh0_7, oh0_8, oh0_9, oh0_10, oh0_11, oh0_12, oh0_13, oh0_14, oh0_15, oh0_16, oh0_17, oh0_18, oh0_19, oh0_20, oh0_21, .ref h0_now, .ref h0_isKept, oh0_24, oh0_25, oh0_26, oh0_27, oh0_28, oh0_29, oh0_30, oh0_31, oh0_32, oh0_33, oh0_34, oh0_35, oh0_36, oh0_37])), (h0_now, .inl (cy 2, 60, .inl v_now_31)), (h0_isKept, .inl (cy 4, 2, .inl (upd v_isKept p1.toNatClampNeg (vp_nar .boolean (1 : Int32)))))] H := hP
    have hD : va_D A [(h0, .inr (9, [.int v_seed, oh0_1, oh0_2, oh0_3, oh0_4, oh0_5, oh0_6, oh0_7, oh0_8, oh0_9, oh0_10, oh0_11, oh0_12, oh0_13, oh0_14, oh0_15, oh0_16, oh0_17, oh0_18, oh0_19, oh0_20, oh0_21, .ref h0_now, .ref h0_isKept, oh0_24, oh0_25, oh0_26, oh0_27, oh0_28, oh0_29, oh0_30, oh0_31, oh0_32, oh0_33, oh0_34, oh0_35, oh0_36, oh0_37])), (h0_now, .inl (cy 2, 60, .inl v_now_31)), (h0_isKept, .inl (cy 4, 2, .inl (upd v_isKept p1.toNatClampNeg (vp_nar .boolean (1 : Int32)))))] := hD
    refine lv_iconst (v := 1) hx hb dX9_keep_41 (by decide) ?_
    obtain ⟨rfl, rfl, rfl⟩ := si3 hM
    exact hret _ _ _ _ _ dX9_keep_42 rfl rfl hP hD hS
  · have hM := g_pos c6 hM
    refine lv_ldc (v := -1000000001) hx hb hown k180 dX9_keep_9 ?_
    obtain ⟨rfl, rfl, rfl⟩ := si3 hM
    exact hret _ _ _ _ _ dX9_keep_11 rfl rfl hP hD hS

-- ===== X9_goBack goBack (I)I =====
abbrev r9_goBack : Room := { frames := 1, cells := 0, slots := 0, locals := 23 }
def f9_goBack (N : Nat) (p1 : Int32) (v_seed : Int32) (v_now : Nat → Int32) (v_isKept : Nat → Int32) : Option (Int32 × Int32 × (Nat → Int32)) :=
  ob1 (f9_in N p1 (0 : Int32) (1 : Int32)) fun r3 => if r3 = (0 : Int32) then (some ((-1000000001 : Int32), v_seed, v_now)) else (gi p1 2 (if (v_isKept p1.toNatClampNeg) = (0 : Int32) then (some ((-1000000003 : Int32), v_seed, v_now)) else (ob1 (f9_copy N ((20 : Int32) * ((1 : Int32) + p1)) (0 : Int32) v_now) fun v_now_32 => gi (19 : Int32) 60 (some ((1 : Int32), (v_now_32 (19 : Int32).toNatClampNeg), v_now_32)))))
set_option maxHeartbeats 4000000 in
set_option maxRecDepth 100000 in
theorem c9_goBack (l : Launch) (D : va_G) (cy : Nat → ClassId) (N : Nat) (h0 h0_now h0_isKept : Nat) (oh0_1 oh0_2 oh0_3 oh0_4 oh0_5 oh0_6 oh0_7 oh0_8 oh0_9 oh0_10 oh0_11 oh0_12 oh0_13 oh0_14 oh0_15 oh0_16 oh0_17 oh0_18 oh0_19 oh0_20 oh0_21 oh0_24 oh0_25 oh0_26 oh0_27 oh0_28 oh0_29 oh0_30 oh0_31 oh0_32 oh0_33 oh0_34 oh0_35 oh0_36 oh0_37 : Value) (p1 : Int32) (v_seed : Int32) (v_now : Nat → Int32) (v_isKept : Nat → Int32) (r : Int32) (nv_seed : Int32) (nv_now : Nat → Int32) (hM : f9_goBack N p1 v_seed v_now v_isKept = some (r, nv_seed, nv_now)) (sz : Nat) : CTi l yX9_goBack wsX9_goBack r9_goBack [.ref h0, .int p1] D cy sz [(h0, .inr (9, [.int v_seed, oh0_1, oh0_2, oh0_3, oh0_4, oh0_5, oh0_6, oh0_7, oh0_8, oh0_9, oh0_10, oh0_11, oh0_12, oh0_13, oh0_14, oh0_15, oh0_16, oh0_17, oh0_18, oh0_19, oh0_20, oh0_21, .ref h0_now, .ref h0_isKept, oh0_24, oh0_25, oh0_26, oh0_27, oh0_28, oh0_29, oh0_30, oh0_31, oh0_32, oh0_33, oh0_34, oh0_35, oh0_36, oh0_37])), (h0_now, .inl (cy 2, 60, .inl v_now)), (h0_isKept, .inl (cy 4, 2, .inl v_isKept))] [(h0, .inr (9, [.int nv_seed, oh0_1, oh0_2, oh0_3, oh0_4, oh0_5, oh0_6, oh0_7, oh0_8, oh0_9, oh0_10, oh0_11, oh0_12, oh0_13, oh0_14, oh0_15, oh0_16, oh0_17, oh0_18, oh0_19, oh0_20, oh0_21, .ref h0_now, .ref h0_isKept, oh0_24, oh0_25, oh0_26, oh0_27, oh0_28, oh0_29, oh0_30, oh0_31, oh0_32, oh0_33, oh0_34, oh0_35, oh0_36, oh0_37])), (h0_now, .inl (cy 2, 60, .inl nv_now)), (h0_isKept, .inl (cy 4, 2, .inl v_isKept))] r := by
  unfold f9_goBack at hM
  refine ct_oi (cc := cX9_goBack) (maxL := 2) (ty := .int) (by decide +kernel) rfl (Nat.le_of_ble_eq_true rfl) (lv0 := [(0, .ref h0), (1, .int p1)]) rfl ?_
  intro p e s m args below meth c A Q ls hx hb hts hown hml hK hP hD hS hA hret hl
  have hown : s.vm.findClass RX9 = some m.cls := hown
  have k53 := hts (.fieldLink RX9 53 "CaveYearsModel" "isKept" "[Z") (List.mem_of_getElem? (i := 2) (by decide +kernel))
  have iX9 := (fun w h => (List.mem_cons_of_mem _ (List.mem_append_right _ h)) : ∀ w ∈ wsX90, w ∈ wsX9_goBack)
  have k50 := hts (.fieldLink RX9 50 "CaveYearsModel" "now" "[I") (List.mem_of_getElem? (i := 4) (by decide +kernel))
  have k214 := hts (.fieldLink RX9 214 "CaveYearsModel" "seed" "I") (List.mem_of_getElem? (i := 5) (by decide +kernel))
  have k197 := hts (.constant RX9 197 (-1000000003)) (List.mem_of_getElem? (i := 3) (by decide +kernel))
  have k180 := hts (.constant RX9 180 (-1000000001)) (List.mem_of_getElem? (i := 1) (by decide +kernel))
  refine lv_iload_n hx hb dX9_goBack_0 rfl (lv_at hl 1 rfl) ?_
  refine lv_iconst (v := 0) hx hb dX9_goBack_1 (by decide) ?_
  refine lv_iconst (v := 1) hx hb dX9_goBack_2 (by decide) ?_
  obtain ⟨r3, hc3, hM⟩ := ob1_some hM
  refine cl_si (As := [.int p1, .int (0 : Int32), .int (1 : Int32)]) (rest := []) (wr := [(h0, .inr (9, [.int v_seed, oh0_1, oh0_2, oh0_3, oh0_4, oh0_5, oh0_6, oh0_7, oh0_8, oh0_9, oh0_10, oh0_11, oh0_12, oh0_13, oh0_14, oh0_15, oh0_16, oh0_17, oh0_18, oh0_19, oh0_20, oh0_21, .ref h0_now, .ref h0_isKept, oh0_24, oh0_25, oh0_26, oh0_27, oh0_28, oh0_29, oh0_30, oh0_31, oh0_32, oh0_33, oh0_34, oh0_35, oh0_36, oh0_37])), (h0_now, .inl (cy 2, 60, .inl v_now)), (h0_isKept, .inl (cy 4, 2, .inl v_isKept))]) (ws2 := [(h0, .inr (9, [.int v_seed, oh0_1, oh0_2, oh0_3, oh0_4, oh0_5, oh0_6, oh0_7, oh0_8, oh0_9, oh0_10, oh0_11, oh0_12, oh0_13, oh0_14, oh0_15, oh0_16, oh0_17, oh0_18, oh0_19, oh0_20, oh0_21, .ref h0_now, .ref h0_isKept, oh0_24, oh0_25, oh0_26, oh0_27, oh0_28, oh0_29, oh0_30, oh0_31, oh0_32, oh0_33, oh0_34, oh0_35, oh0_36, oh0_37])), (h0_now, .inl (cy 2, 60, .inl v_now)), (h0_isKept, .inl (cy 4, 2, .inl v_isKept))]) (isC := []) (isR := [0, 1, 2]) (pm := [0, 1, 2]) hx hb hml hown hts (c9_in l D cy N p1 (0 : Int32) (1 : Int32) r3 hc3) (va_cwS 3 hts gX9_goBack_X9_in rfl rfl rfl (by decide +kernel) ⟨Nat.le_of_ble_eq_true rfl, Nat.le_of_ble_eq_true rfl⟩) hK hP hD hS hA rfl rfl rfl (by decide) rfl rfl rfl hl.1 (Nat.le_of_ble_eq_true rfl) dX9_goBack_3 ⟨Nat.zero_le _, Nat.zero_le _⟩ rfl rfl (fun H locs hP hD hS => ?_)
  refine lv_if_ne (tgt := 12) hx hb dX9_goBack_6 (by decide) (fun c6 => ?_) (fun c6 => ?_)
  · have hM := g_neg c6 hM
    refine lv_aload_n hx hb dX9_goBack_12 rfl (lv_at hl 0 rfl) ?_
    refine va_get (D := D) (ci := 9) (v := .ref h0_isKept) (C := RX9) (T := TX9) (N := 38) hx hb hts iX9 hown hK hP 0 rfl rfl 23 (by decide) k53 (fun _ h9 => h9) rfl dX9_goBack_13 ?_
    refine lv_iload_n hx hb dX9_goBack_16 rfl (lv_at hl 1 rfl) ?_
    obtain ⟨h17, hM⟩ := gi_some hM
    refine va_zald hx hb hK hP 2 4 rfl rfl h17 dX9_goBack_17 ?_
    refine lv_if_ne (tgt := 24) hx hb dX9_goBack_18 (by decide) (fun c18 => ?_) (fun c18 => ?_)
    · have hM := g_neg c18 hM
      refine lv_aload_n hx hb dX9_goBack_24 rfl (lv_at hl 0 rfl) ?_
      refine lv_bipush (v := 20) hx hb dX9_goBack_25 (by decide) ?_
      refine lv_iconst (v := 1) hx hb dX9_goBack_27 (by decide) ?_
      refine lv_iload_n hx hb dX9_goBack_28 rfl (lv_at hl 1 rfl) ?_
      refine lv_iadd hx hb dX9_goBack_29 ?_
      refine lv_imul hx hb dX9_goBack_30 ?_
      refine lv_iconst (v := 0) hx hb dX9_goBack_31 (by decide) ?_
      obtain ⟨v_now_32, hc32, hM⟩ := ob1_some hM
      refine cl_vv (As := [.int ((20 : Int32) * ((1 : Int32) + p1)), .int (0 : Int32)]) (rest := []) (ci := 9) (q0 := 0) (wr := [(h0_isKept, .inl (cy 4, 2, .inl v_isKept))]) (ws2 := [(h0, .inr (9, [.int v_seed, oh0_1, oh0_2, oh0_3, oh0_4, oh0_5, oh0_6, oh0_7, oh0_8, oh0_9, oh0_10, oh0_11, oh0_12, oh0_13, oh0_14, oh0_15, oh0_16, oh0_17, oh0_18, oh0_19, oh0_20, oh0_21, .ref h0_now, .ref h0_isKept, oh0_24, oh0_25, oh0_26, oh0_27, oh0_28, oh0_29, oh0_30, oh0_31, oh0_32, oh0_33, oh0_34, oh0_35, oh0_36, oh0_37])), (h0_now, .inl (cy 2, 60, .inl v_now_32)), (h0_isKept, .inl (cy 4, 2, .inl v_isKept))]) (isC := [0, 1]) (isR := [2]) (pm := [1, 2, 0]) hx hb hml hown hts (c9_copy l D cy N h0 h0_now (.int v_seed) oh0_1 oh0_2 oh0_3 oh0_4 oh0_5 oh0_6 oh0_7 oh0_8 oh0_9 oh0_10 oh0_11 oh0_12 oh0_13 oh0_14 oh0_15 oh0_16 oh0_17 oh0_18 oh0_19 oh0_20 oh0_21 (.ref h0_isKept) oh0_24 oh0_25 oh0_26 oh0_27 oh0_28 oh0_29 oh0_30 oh0_31 oh0_32 oh0_33 oh0_34 oh0_35 oh0_36 oh0_37 ((20 : Int32) * ((1 : Int32) + p1)) (0 : Int32) v_now v_now_32 hc32) (cwV 2 hts gX9_goBack_X9_copy rfl rfl rfl (by decide +kernel) ⟨Nat.le_of_ble_eq_true rfl, Nat.le_of_ble_eq_true rfl⟩) hK hP hD hS hA rfl rfl rfl rfl rfl (by decide) rfl rfl rfl hl.1 (Nat.le_of_ble_eq_true rfl) dX9_goBack_32 ⟨Nat.zero_le _, Nat.zero_le _⟩ rfl rfl (fun H locs hP hD hS => ?_)
      refine lv_aload_n hx hb dX9_goBack_35 rfl (lv_at hl 0 rfl) ?_
      refine lv_aload_n hx hb dX9_goBack_36 rfl (lv_at hl 0 rfl) ?_
      refine va_get (D := D) (ci := 9) (v := .ref h0_now) (C := RX9) (T := TX9) (N := 38) hx hb hts iX9 hown hK hP 0 rfl rfl 22 (by decide) k50 (fun _ h9 => h9) rfl dX9_goBack_37 ?_
      refine lv_bipush (v := 19) hx hb dX9_goBack_40 (by decide) ?_
      obtain ⟨h42, hM⟩ := gi_some hM
      refine va_iald hx hb hK hP 1 2 rfl rfl h42 dX9_goBack_42 ?_
      refine va_put (D := D) (ci := 9) (v := .int (v_now_32 (19 : Int32).toNatClampNeg)) (ty := .int) (C := RX9) (T := TX9) (N := 38) hx hb hts iX9 tyX9 tyX9_ok nmX9 hown hK hP hD hS 0 rfl rfl 0 (by decide) k214 (fun _ h9 => h9) rfl (by decide +kernel) rfl rfl (Nat.le_of_ble_eq_true rfl) dX9_goBack_43 (fun H locs hP hD hS => ?_)
      have hP : va_P D vwCl [(h0, .inr (9, [.int (v_now_32 (19 : Int32).toNatClampNeg), oh0_1, oh0_2, oh0_3, oh0_4, oh0_5, oh0_6, oh0_7, oh0_8, oh0_9, oh0_10, oh0_11, oh0_12, oh0_13, oh0_14, oh0_15, oh0_16, oh0_17, oh0_18, oh0_19, oh0_20, oh0_21, .ref h0_now, .ref h0_isKept, oh0_24, oh0_25, oh0_26, oh0_27, oh0_28, oh0_29, oh0_30, oh0_31, oh0_32, oh0_33, oh0_34, oh0_35, oh0_36, oh0_37])), (h0_now, .inl (cy 2, 60, .inl v_now_32)), (h0_isKept, .inl (cy 4, 2, .inl v_isKept))] H := hP
      have hD : va_D A [(h0, .inr (9, [.int (v_now_32 (19 : Int32).toNatClampNeg), oh0_1, oh0_2, oh0_3, oh0_4, oh0_5, oh0_6, oh0_7, oh0_8, oh0_9, oh0_10, oh0_11, oh0_12, oh0_13, oh0_14, oh0_15, oh0_16, oh0_17, oh0_18, oh0_19, oh0_20, oh0_21, .ref h0_now, .ref h0_isKept, oh0_24, oh0_25, oh0_26, oh0_27, oh0_28, oh0_29, oh0_30, oh0_31, oh0_32, oh0_33, oh0_34, oh0_35, oh0_36, oh0_37])), (h0_now, .inl (cy 2, 60, .inl v_now_32)), (h0_isKept, .inl (cy 4, 2, .inl v_isKept))] := hD
      refine lv_iconst (v := 1) hx hb dX9_goBack_46 (by decide) ?_
      obtain ⟨rfl, rfl, rfl⟩ := si3 hM
      exact hret _ _ _ _ _ dX9_goBack_47 rfl rfl hP hD hS
    · have hM := g_pos c18 hM
      refine lv_ldc (v := -1000000003) hx hb hown k197 dX9_goBack_21 ?_
      obtain ⟨rfl, rfl, rfl⟩ := si3 hM
      exact hret _ _ _ _ _ dX9_goBack_23 rfl rfl hP hD hS
  · have hM := g_pos c6 hM
    refine lv_ldc (v := -1000000001) hx hb hown k180 dX9_goBack_9 ?_
    obtain ⟨rfl, rfl, rfl⟩ := si3 hM
    exact hret _ _ _ _ _ dX9_goBack_11 rfl rfl hP hD hS
