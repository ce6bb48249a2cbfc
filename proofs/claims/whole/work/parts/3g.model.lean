-- ===== X9_fault fault ()I =====
abbrev r9_fault : Room := { frames := 0, cells := 0, slots := 0, locals := 0 }
def f9_fault (N : Nat) (v_faultAt : Int32) : Option Int32 :=
  some v_faultAt
set_option maxHeartbeats 4000000 in
set_option maxRecDepth 100000 in
theorem c9_fault (l : Launch) (D : va_G) (cy : Nat → ClassId) (N : Nat) (h0 : Nat) (oh0_0 oh0_1 oh0_2 oh0_3 oh0_4 oh0_5 oh0_6 oh0_7 oh0_8 oh0_9 oh0_10 oh0_11 oh0_12 oh0_13 oh0_14 oh0_15 oh0_16 oh0_17 oh0_18 oh0_19 oh0_21 oh0_22 oh0_23 oh0_24 oh0_25 oh0_26 oh0_27 oh0_28 oh0_29 oh0_30 oh0_31 oh0_32 oh0_33 oh0_34 oh0_35 oh0_36 oh0_37 : Value) (v_faultAt : Int32) (r : Int32) (hM : f9_fault N v_faultAt = some r) (sz : Nat) : CTi l yX9_fault wsX9_fault r9_fault [.ref h0] D cy sz [(h0, .inr (9, [oh0_0, oh0_1, oh0_2, oh0_3, oh0_4, oh0_5, oh0_6, oh0_7, oh0_8, oh0_9, oh0_10, oh0_11, oh0_12, oh0_13, oh0_14, oh0_15, oh0_16, oh0_17, oh0_18, oh0_19, .int v_faultAt, oh0_21, oh0_22, oh0_23, oh0_24, oh0_25, oh0_26, oh0_27, oh0_28, oh0_29, oh0_30, oh0_31, oh0_32, oh0_33, oh0_34, oh0_35, oh0_36, oh0_37]))] [(h0, .inr (9, [oh0_0, oh0_1, oh0_2, oh0_3, oh0_4, oh0_5, oh0_6, oh0_7, oh0_8, oh0_9, oh0_10, oh0_11, oh0_12, oh0_13, oh0_14, oh0_15, oh0_16, oh0_17, oh0_18, oh0_19, .int v_faultAt, oh0_21, oh0_22, oh0_23, oh0_24, oh0_25, oh0_26, oh0_27, oh0_28, oh0_29, oh0_30, oh0_31, oh0_32, oh0_33, oh0_34, oh0_35, oh0_36, oh0_37]))] r := by
  unfold f9_fault at hM
  refine ct_oi (cc := cX9_fault) (maxL := 1) (ty := .int) (by decide +kernel) rfl (Nat.le_of_ble_eq_true rfl) (lv0 := [(0, .ref h0)]) rfl ?_
  intro p e s m args below meth c A Q ls hx hb hts hown hml hK hP hD hS hA hret hl
  have hown : s.vm.findClass RX9 = some m.cls := hown
  have k91 := hts (.fieldLink RX9 91 "CaveYearsModel" "faultAt" "I") (List.mem_of_getElem? (i := 1) (by decide +kernel))
  have iX9 := (fun w h => (List.mem_cons_of_mem _ (List.mem_append_right _ h)) : ∀ w ∈ wsX90, w ∈ wsX9_fault)
  refine lv_aload_n hx hb dX9_fault_0 rfl (lv_at hl 0 rfl) ?_
  refine va_get (D := D) (ci := 9) (v := .int v_faultAt) (C := RX9) (T := TX9) (N := 38) hx hb hts iX9 hown hK hP 0 rfl rfl 20 (by decide) k91 (fun _ h9 => h9) rfl dX9_fault_1 ?_
  obtain rfl := si1 hM
  exact hret _ _ _ _ _ dX9_fault_4 rfl rfl hP hD hS

-- ===== X9_isPart isPart (I)Z =====
abbrev r9_isPart : Room := { frames := 1, cells := 0, slots := 0, locals := 22 }
def f9_isPart (N : Nat) (p1 : Int32) (v_parts : Nat → Int32) : Option Int32 :=
  gi (0 : Int32) 2 (ob1 (f9_in N p1 (0 : Int32) ((v_parts (0 : Int32).toNatClampNeg) - (1 : Int32))) fun r10 => gb r10 (some r10))
set_option maxHeartbeats 4000000 in
set_option maxRecDepth 100000 in
theorem c9_isPart (l : Launch) (D : va_G) (cy : Nat → ClassId) (N : Nat) (h0 h0_parts : Nat) (oh0_0 oh0_1 oh0_2 oh0_4 oh0_5 oh0_6 oh0_7 oh0_8 oh0_9 oh0_10 oh0_11 oh0_12 oh0_13 oh0_14 oh0_15 oh0_16 oh0_17 oh0_18 oh0_19 oh0_20 oh0_21 oh0_22 oh0_23 oh0_24 oh0_25 oh0_26 oh0_27 oh0_28 oh0_29 oh0_30 oh0_31 oh0_32 oh0_33 oh0_34 oh0_35 oh0_36 oh0_37 : Value) (p1 : Int32) (v_parts : Nat → Int32) (r : Int32) (hM : f9_isPart N p1 v_parts = some r) (sz : Nat) : CTi l yX9_isPart wsX9_isPart r9_isPart [.ref h0, .int p1] D cy sz [(h0, .inr (9, [oh0_0, oh0_1, oh0_2, .ref h0_parts, oh0_4, oh0_5, oh0_6, oh0_7, oh0_8, oh0_9, oh0_10, oh0_11, oh0_12, oh0_13, oh0_14, oh0_15, oh0_16, oh0_17, oh0_18, oh0_19, oh0_20, oh0_21, oh0_22, oh0_23, oh0_24, oh0_25, oh0_26, oh0_27, oh0_28, oh0_29, oh0_30, oh0_31, oh0_32, oh0_33, oh0_34, oh0_35, oh0_36, oh0_37])), (h0_parts, .inl (cy 2, 2, .inl v_parts))] [(h0, .inr (9, [oh0_0, oh0_1, oh0_2, .ref h0_parts, oh0_4, oh0_5, oh0_6, oh0_7, oh0_8, oh0_9, oh0_10, oh0_11, oh0_12, oh0_13, oh0_14, oh0_15, oh0_16, oh0_17, oh0_18, oh0_19, oh0_20, oh0_21, oh0_22, oh0_23, oh0_24, oh0_25, oh0_26, oh0_27, oh0_28, oh0_29, oh0_30, oh0_31, oh0_32, oh0_33, oh0_34, oh0_35, oh0_36, oh0_37])), (h0_parts, .inl (cy 2, 2, .inl v_parts))] r := by
  unfold f9_isPart at hM
  refine ct_oi (cc := cX9_isPart) (maxL := 2) (ty := .boolean) (by decide +kernel) rfl (Nat.le_of_ble_eq_true rfl) (lv0 := [(0, .ref h0), (1, .int p1)]) rfl ?_
  intro p e s m args below meth c A Q ls hx hb hts hown hml hK hP hD hS hA hret hl
  have hown : s.vm.findClass RX9 = some m.cls := hown
  have k13 := hts (.fieldLink RX9 13 "CaveYearsModel" "parts" "[I") (List.mem_of_getElem? (i := 1) (by decide +kernel))
  have iX9 := (fun w h => (List.mem_cons_of_mem _ (List.mem_append_right _ h)) : ∀ w ∈ wsX90, w ∈ wsX9_isPart)
  refine lv_iload_n hx hb dX9_isPart_0 rfl (lv_at hl 1 rfl) ?_
  refine lv_iconst (v := 0) hx hb dX9_isPart_1 (by decide) ?_
  refine lv_aload_n hx hb dX9_isPart_2 rfl (lv_at hl 0 rfl) ?_
  refine va_get (D := D) (ci := 9) (v := .ref h0_parts) (C := RX9) (T := TX9) (N := 38) hx hb hts iX9 hown hK hP 0 rfl rfl 3 (by decide) k13 (fun _ h9 => h9) rfl dX9_isPart_3 ?_
  refine lv_iconst (v := 0) hx hb dX9_isPart_6 (by decide) ?_
  obtain ⟨h7, hM⟩ := gi_some hM
  refine va_iald hx hb hK hP 1 2 rfl rfl h7 dX9_isPart_7 ?_
  refine lv_iconst (v := 1) hx hb dX9_isPart_8 (by decide) ?_
  refine lv_isub hx hb dX9_isPart_9 ?_
  obtain ⟨r10, hc10, hM⟩ := ob1_some hM
  refine cl_si (As := [.int p1, .int (0 : Int32), .int ((v_parts (0 : Int32).toNatClampNeg) - (1 : Int32))]) (rest := []) (wr := [(h0, .inr (9, [oh0_0, oh0_1, oh0_2, .ref h0_parts, oh0_4, oh0_5, oh0_6, oh0_7, oh0_8, oh0_9, oh0_10, oh0_11, oh0_12, oh0_13, oh0_14, oh0_15, oh0_16, oh0_17, oh0_18, oh0_19, oh0_20, oh0_21, oh0_22, oh0_23, oh0_24, oh0_25, oh0_26, oh0_27, oh0_28, oh0_29, oh0_30, oh0_31, oh0_32, oh0_33, oh0_34, oh0_35, oh0_36, oh0_37])), (h0_parts, .inl (cy 2, 2, .inl v_parts))]) (ws2 := [(h0, .inr (9, [oh0_0, oh0_1, oh0_2, .ref h0_parts, oh0_4, oh0_5, oh0_6, oh0_7, oh0_8, oh0_9, oh0_10, oh0_11, oh0_12, oh0_13, oh0_14, oh0_15, oh0_16, oh0_17, oh0_18, oh0_19, oh0_20, oh0_21, oh0_22, oh0_23, oh0_24, oh0_25, oh0_26, oh0_27, oh0_28, oh0_29, oh0_30, oh0_31, oh0_32, oh0_33, oh0_34, oh0_35, oh0_36, oh0_37])), (h0_parts, .inl (cy 2, 2, .inl v_parts))]) (isC := []) (isR := [0, 1]) (pm := [0, 1]) hx hb hml hown hts (c9_in l D cy N p1 (0 : Int32) ((v_parts (0 : Int32).toNatClampNeg) - (1 : Int32)) r10 hc10) (va_cwS 3 hts gX9_isPart_X9_in rfl rfl rfl (by decide +kernel) ⟨Nat.le_of_ble_eq_true rfl, Nat.le_of_ble_eq_true rfl⟩) hK hP hD hS hA rfl rfl rfl (by decide) rfl rfl rfl hl.1 (Nat.le_of_ble_eq_true rfl) dX9_isPart_10 ⟨Nat.zero_le _, Nat.zero_le _⟩ rfl rfl (fun H locs hP hD hS => ?_)
  obtain ⟨hz13, hM⟩ := gb_some hM
  obtain rfl := si1 hM
  exact hret _ _ _ _ _ dX9_isPart_13 rfl hz13 hP hD hS

-- ===== X9_isMouth isMouth (I)Z =====
abbrev r9_isMouth : Room := { frames := 2, cells := 0, slots := 0, locals := 43 }
def f9_isMouth (N : Nat) (p1 : Int32) (v_parts : Nat → Int32) (v_mouths : Nat → Int32) : Option Int32 :=
  ob1 (f9_isPart N p1 v_parts) fun r2 => if r2 = (0 : Int32) then (some (0 : Int32)) else (gi (0 : Int32) 2 (if (((v_mouths (0 : Int32).toNatClampNeg) >>> (p1 &&& 31)) &&& (1 : Int32)) = (1 : Int32) then (some (1 : Int32)) else (some (0 : Int32))))
set_option maxHeartbeats 4000000 in
set_option maxRecDepth 100000 in
theorem c9_isMouth (l : Launch) (D : va_G) (cy : Nat → ClassId) (N : Nat) (h0 h0_parts h0_mouths : Nat) (oh0_0 oh0_1 oh0_2 oh0_4 oh0_5 oh0_6 oh0_8 oh0_9 oh0_10 oh0_11 oh0_12 oh0_13 oh0_14 oh0_15 oh0_16 oh0_17 oh0_18 oh0_19 oh0_20 oh0_21 oh0_22 oh0_23 oh0_24 oh0_25 oh0_26 oh0_27 oh0_28 oh0_29 oh0_30 oh0_31 oh0_32 oh0_33 oh0_34 oh0_35 oh0_36 oh0_37 : Value) (p1 : Int32) (v_parts : Nat → Int32) (v_mouths : Nat → Int32) (r : Int32) (hM : f9_isMouth N p1 v_parts v_mouths = some r) (sz : Nat) : CTi l yX9_isMouth wsX9_isMouth r9_isMouth [.ref h0, .int p1] D cy sz [(h0, .inr (9, [oh0_0, oh0_1, oh0_2, .ref h0_parts, oh0_4, oh0_5, oh0_6, .ref h0_mouths, oh0_8, oh0_9, oh0_10, oh0_11, oh0_12, oh0_13, oh0_14, oh0_15, oh0_16, oh0_17, oh0_18, oh0_19, oh0_20, oh0_21, oh0_22, oh0_23, oh0_24, oh0_25, oh0_26, oh0_27, oh0_28, oh0_29, oh0_30, oh0_31, oh0_32, oh0_33, oh0_34, oh0_35, oh0_36, oh0_37])), (h0_parts, .inl (cy 2, 2, .inl v_parts)), (h0_mouths, .inl (cy 2, 2, .inl v_mouths))] [(h0, .inr (9, [oh0_0, oh0_1, oh0_2, .ref h0_parts, oh0_4, oh0_5, oh0_6, .ref h0_mouths, oh0_8, oh0_9, oh0_10, oh0_11, oh0_12, oh0_13, oh0_14, oh0_15, oh0_16, oh0_17, oh0_18, oh0_19, oh0_20, oh0_21, oh0_22, oh0_23, oh0_24, oh0_25, oh0_26, oh0_27, oh0_28, oh0_29, oh0_30, oh0_31, oh0_32, oh0_33, oh0_34, oh0_35, oh0_36, oh0_37])), (h0_parts, .inl (cy 2, 2, .inl v_parts)), (h0_mouths, .inl (cy 2, 2, .inl v_mouths))] r := by
  unfold f9_isMouth at hM
  refine ct_oi (cc := cX9_isMouth) (maxL := 2) (ty := .boolean) (by decide +kernel) rfl (Nat.le_of_ble_eq_true rfl) (lv0 := [(0, .ref h0), (1, .int p1)]) rfl ?_
  intro p e s m args below meth c A Q ls hx hb hts hown hml hK hP hD hS hA hret hl
  have hown : s.vm.findClass RX9 = some m.cls := hown
  have k26 := hts (.fieldLink RX9 26 "CaveYearsModel" "mouths" "[I") (List.mem_of_getElem? (i := 1) (by decide +kernel))
  have iX9 := (fun w h => (List.mem_cons_of_mem _ (List.mem_append_right _ h)) : ∀ w ∈ wsX90, w ∈ wsX9_isMouth)
  refine lv_aload_n hx hb dX9_isMouth_0 rfl (lv_at hl 0 rfl) ?_
  refine lv_iload_n hx hb dX9_isMouth_1 rfl (lv_at hl 1 rfl) ?_
  obtain ⟨r2, hc2, hM⟩ := ob1_some hM
  refine cl_vi (As := [.int p1]) (rest := []) (ci := 9) (q0 := 0) (wr := [(h0_mouths, .inl (cy 2, 2, .inl v_mouths))]) (ws2 := [(h0, .inr (9, [oh0_0, oh0_1, oh0_2, .ref h0_parts, oh0_4, oh0_5, oh0_6, .ref h0_mouths, oh0_8, oh0_9, oh0_10, oh0_11, oh0_12, oh0_13, oh0_14, oh0_15, oh0_16, oh0_17, oh0_18, oh0_19, oh0_20, oh0_21, oh0_22, oh0_23, oh0_24, oh0_25, oh0_26, oh0_27, oh0_28, oh0_29, oh0_30, oh0_31, oh0_32, oh0_33, oh0_34, oh0_35, oh0_36, oh0_37])), (h0_parts, .inl (cy 2, 2, .inl v_parts)), (h0_mouths, .inl (cy 2, 2, .inl v_mouths))]) (isC := [0, 1]) (isR := [2]) (pm := [1, 2, 0]) hx hb hml hown hts (c9_isPart l D cy N h0 h0_parts oh0_0 oh0_1 oh0_2 oh0_4 oh0_5 oh0_6 (.ref h0_mouths) oh0_8 oh0_9 oh0_10 oh0_11 oh0_12 oh0_13 oh0_14 oh0_15 oh0_16 oh0_17 oh0_18 oh0_19 oh0_20 oh0_21 oh0_22 oh0_23 oh0_24 oh0_25 oh0_26 oh0_27 oh0_28 oh0_29 oh0_30 oh0_31 oh0_32 oh0_33 oh0_34 oh0_35 oh0_36 oh0_37 p1 v_parts r2 hc2) (cwV 1 hts gX9_isMouth_X9_isPart rfl rfl rfl (by decide +kernel) ⟨Nat.le_of_ble_eq_true rfl, Nat.le_of_ble_eq_true rfl⟩) hK hP hD hS hA rfl rfl rfl rfl rfl (by decide) rfl rfl rfl hl.1 (Nat.le_of_ble_eq_true rfl) dX9_isMouth_2 ⟨Nat.zero_le _, Nat.zero_le _⟩ rfl rfl (fun H locs hP hD hS => ?_)
  refine lv_if_eq (tgt := 26) hx hb dX9_isMouth_5 (by decide) (fun c5 => ?_) (fun c5 => ?_)
  · have hM := g_pos c5 hM
    refine lv_iconst (v := 0) hx hb dX9_isMouth_26 (by decide) ?_
    obtain rfl := si1 hM
    exact hret _ _ _ _ _ dX9_isMouth_27 rfl rfl hP hD hS
  · have hM := g_neg c5 hM
    refine lv_aload_n hx hb dX9_isMouth_8 rfl (lv_at hl 0 rfl) ?_
    refine va_get (D := D) (ci := 9) (v := .ref h0_mouths) (C := RX9) (T := TX9) (N := 38) hx hb hts iX9 hown hK hP 0 rfl rfl 7 (by decide) k26 (fun _ h9 => h9) rfl dX9_isMouth_9 ?_
    refine lv_iconst (v := 0) hx hb dX9_isMouth_12 (by decide) ?_
    obtain ⟨h13, hM⟩ := gi_some hM
    refine va_iald hx hb hK hP 2 2 rfl rfl h13 dX9_isMouth_13 ?_
    refine lv_iload_n hx hb dX9_isMouth_14 rfl (lv_at hl 1 rfl) ?_
    refine lv_ishr hx hb dX9_isMouth_15 ?_
    refine lv_iconst (v := 1) hx hb dX9_isMouth_16 (by decide) ?_
    refine lv_iand hx hb dX9_isMouth_17 ?_
    refine lv_iconst (v := 1) hx hb dX9_isMouth_18 (by decide) ?_
    refine lv_icmp_ne (tgt := 26) hx hb dX9_isMouth_19 (by decide) (fun c19 => ?_) (fun c19 => ?_)
    · have hM := g_neg c19 hM
      refine lv_iconst (v := 0) hx hb dX9_isMouth_26 (by decide) ?_
      obtain rfl := si1 hM
      exact hret _ _ _ _ _ dX9_isMouth_27 rfl rfl hP hD hS
    · have hM := g_pos c19 hM
      refine lv_iconst (v := 1) hx hb dX9_isMouth_22 (by decide) ?_
      refine lv_goto (tgt := 27) hx hb dX9_isMouth_23 (by decide) ?_
      obtain rfl := si1 hM
      exact hret _ _ _ _ _ dX9_isMouth_27 rfl rfl hP hD hS

-- ===== X9_isPerson isPerson (I)Z =====
abbrev r9_isPerson : Room := { frames := 1, cells := 0, slots := 0, locals := 22 }
def f9_isPerson (N : Nat) (p1 : Int32) (v_persons : Nat → Int32) : Option Int32 :=
  gi (0 : Int32) 2 (ob1 (f9_in N p1 (0 : Int32) ((v_persons (0 : Int32).toNatClampNeg) - (1 : Int32))) fun r10 => gb r10 (some r10))
set_option maxHeartbeats 4000000 in
set_option maxRecDepth 100000 in
theorem c9_isPerson (l : Launch) (D : va_G) (cy : Nat → ClassId) (N : Nat) (h0 h0_persons : Nat) (oh0_0 oh0_1 oh0_2 oh0_3 oh0_4 oh0_5 oh0_6 oh0_7 oh0_9 oh0_10 oh0_11 oh0_12 oh0_13 oh0_14 oh0_15 oh0_16 oh0_17 oh0_18 oh0_19 oh0_20 oh0_21 oh0_22 oh0_23 oh0_24 oh0_25 oh0_26 oh0_27 oh0_28 oh0_29 oh0_30 oh0_31 oh0_32 oh0_33 oh0_34 oh0_35 oh0_36 oh0_37 : Value) (p1 : Int32) (v_persons : Nat → Int32) (r : Int32) (hM : f9_isPerson N p1 v_persons = some r) (sz : Nat) : CTi l yX9_isPerson wsX9_isPerson r9_isPerson [.ref h0, .int p1] D cy sz [(h0, .inr (9, [oh0_0, oh0_1, oh0_2, oh0_3, oh0_4, oh0_5, oh0_6, oh0_7, .ref h0_persons, oh0_9, oh0_10, oh0_11, oh0_12, oh0_13, oh0_14, oh0_15, oh0_16, oh0_17, oh0_18, oh0_19, oh0_20, oh0_21, oh0_22, oh0_23, oh0_24, oh0_25, oh0_26, oh0_27, oh0_28, oh0_29, oh0_30, oh0_31, oh0_32, oh0_33, oh0_34, oh0_35, oh0_36, oh0_37])), (h0_persons, .inl (cy 2, 2, .inl v_persons))] [(h0, .inr (9, [oh0_0, oh0_1, oh0_2, oh0_3, oh0_4, oh0_5, oh0_6, oh0_7, .ref h0_persons, oh0_9, oh0_10, oh0_11, oh0_12, oh0_13, oh0_14, oh0_15, oh0_16, oh0_17, oh0_18, oh0_19, oh0_20, oh0_21, oh0_22, oh0_23, oh0_24, oh0_25, oh0_26, oh0_27, oh0_28, oh0_29, oh0_30, oh0_31, oh0_32, oh0_33, oh0_34, oh0_35, oh0_36, oh0_37])), (h0_persons, .inl (cy 2, 2, .inl v_persons))] r := by
  unfold f9_isPerson at hM
  refine ct_oi (cc := cX9_isPerson) (maxL := 2) (ty := .boolean) (by decide +kernel) rfl (Nat.le_of_ble_eq_true rfl) (lv0 := [(0, .ref h0), (1, .int p1)]) rfl ?_
  intro p e s m args below meth c A Q ls hx hb hts hown hml hK hP hD hS hA hret hl
  have hown : s.vm.findClass RX9 = some m.cls := hown
  have k29 := hts (.fieldLink RX9 29 "CaveYearsModel" "persons" "[I") (List.mem_of_getElem? (i := 1) (by decide +kernel))
  have iX9 := (fun w h => (List.mem_cons_of_mem _ (List.mem_append_right _ h)) : ∀ w ∈ wsX90, w ∈ wsX9_isPerson)
  refine lv_iload_n hx hb dX9_isPerson_0 rfl (lv_at hl 1 rfl) ?_
  refine lv_iconst (v := 0) hx hb dX9_isPerson_1 (by decide) ?_
  refine lv_aload_n hx hb dX9_isPerson_2 rfl (lv_at hl 0 rfl) ?_
  refine va_get (D := D) (ci := 9) (v := .ref h0_persons) (C := RX9) (T := TX9) (N := 38) hx hb hts iX9 hown hK hP 0 rfl rfl 8 (by decide) k29 (fun _ h9 => h9) rfl dX9_isPerson_3 ?_
  refine lv_iconst (v := 0) hx hb dX9_isPerson_6 (by decide) ?_
  obtain ⟨h7, hM⟩ := gi_some hM
  refine va_iald hx hb hK hP 1 2 rfl rfl h7 dX9_isPerson_7 ?_
  refine lv_iconst (v := 1) hx hb dX9_isPerson_8 (by decide) ?_
  refine lv_isub hx hb dX9_isPerson_9 ?_
  obtain ⟨r10, hc10, hM⟩ := ob1_some hM
  refine cl_si (As := [.int p1, .int (0 : Int32), .int ((v_persons (0 : Int32).toNatClampNeg) - (1 : Int32))]) (rest := []) (wr := [(h0, .inr (9, [oh0_0, oh0_1, oh0_2, oh0_3, oh0_4, oh0_5, oh0_6, oh0_7, .ref h0_persons, oh0_9, oh0_10, oh0_11, oh0_12, oh0_13, oh0_14, oh0_15, oh0_16, oh0_17, oh0_18, oh0_19, oh0_20, oh0_21, oh0_22, oh0_23, oh0_24, oh0_25, oh0_26, oh0_27, oh0_28, oh0_29, oh0_30, oh0_31, oh0_32, oh0_33, oh0_34, oh0_35, oh0_36, oh0_37])), (h0_persons, .inl (cy 2, 2, .inl v_persons))]) (ws2 := [(h0, .inr (9, [oh0_0, oh0_1, oh0_2, oh0_3, oh0_4, oh0_5, oh0_6, oh0_7, .ref h0_persons, oh0_9, oh0_10, oh0_11, oh0_12, oh0_13, oh0_14, oh0_15, oh0_16, oh0_17, oh0_18, oh0_19, oh0_20, oh0_21, oh0_22, oh0_23, oh0_24, oh0_25, oh0_26, oh0_27, oh0_28, oh0_29, oh0_30, oh0_31, oh0_32, oh0_33, oh0_34, oh0_35, oh0_36, oh0_37])), (h0_persons, .inl (cy 2, 2, .inl v_persons))]) (isC := []) (isR := [0, 1]) (pm := [0, 1]) hx hb hml hown hts (c9_in l D cy N p1 (0 : Int32) ((v_persons (0 : Int32).toNatClampNeg) - (1 : Int32)) r10 hc10) (va_cwS 3 hts gX9_isPerson_X9_in rfl rfl rfl (by decide +kernel) ⟨Nat.le_of_ble_eq_true rfl, Nat.le_of_ble_eq_true rfl⟩) hK hP hD hS hA rfl rfl rfl (by decide) rfl rfl rfl hl.1 (Nat.le_of_ble_eq_true rfl) dX9_isPerson_10 ⟨Nat.zero_le _, Nat.zero_le _⟩ rfl rfl (fun H locs hP hD hS => ?_)
  obtain ⟨hz13, hM⟩ := gb_some hM
  obtain rfl := si1 hM
  exact hret _ _ _ _ _ dX9_isPerson_13 rfl hz13 hP hD hS

-- ===== X9_isDown isDown (I)Z =====
abbrev r9_isDown : Room := { frames := 0, cells := 0, slots := 0, locals := 0 }
def f9_isDown (N : Nat) (p1 : Int32) (v_now : Nat → Int32) : Option Int32 :=
  gi ((13 : Int32) + p1) 60 (gi (0 : Int32) 60 (if (v_now ((13 : Int32) + p1).toNatClampNeg) ≤ (v_now (0 : Int32).toNatClampNeg) then (some (0 : Int32)) else (some (1 : Int32))))
set_option maxHeartbeats 4000000 in
set_option maxRecDepth 100000 in
theorem c9_isDown (l : Launch) (D : va_G) (cy : Nat → ClassId) (N : Nat) (h0 h0_now : Nat) (oh0_0 oh0_1 oh0_2 oh0_3 oh0_4 oh0_5 oh0_6 oh0_7 oh0_8 oh0_9 oh0_10 oh0_11 oh0_12 oh0_13 oh0_14 oh0_15 oh0_16 oh0_17 oh0_18 oh0_19 oh0_20 oh0_21 oh0_23 oh0_24 oh0_25 oh0_26 oh0_27 oh0_28 oh0_29 oh0_30 oh0_31 oh0_32 oh0_33 oh0_34 oh0_35 oh0_36 oh0_37 : Value) (p1 : Int32) (v_now : Nat → Int32) (r : Int32) (hM : f9_isDown N p1 v_now = some r) (sz : Nat) : CTi l yX9_isDown wsX9_isDown r9_isDown [.ref h0, .int p1] D cy sz [(h0, .inr (9, [oh0_0, oh0_1, oh0_2, oh0_3, oh0_4, oh0_5, oh0_6, oh0_7, oh0_8, oh0_9, oh0_10, oh0_11, oh0_12, oh0_13, oh0_14, oh0_15, oh0_16, oh0_17, oh0_18, oh0_19, oh0_20, oh0_21, .ref h0_now, oh0_23, oh0_24, oh0_25, oh0_26, oh0_27, oh0_28, oh0_29, oh0_30, oh0_31, oh0_32, oh0_33, oh0_34, oh0_35, oh0_36, oh0_37])), (h0_now, .inl (cy 2, 60, .inl v_now))] [(h0, .inr (9, [oh0_0, oh0_1, oh0_2, oh0_3, oh0_4, oh0_5, oh0_6, oh0_7, oh0_8, oh0_9, oh0_10, oh0_11, oh0_12, oh0_13, oh0_14, oh0_15, oh0_16, oh0_17, oh0_18, oh0_19, oh0_20, oh0_21, .ref h0_now, oh0_23, oh0_24, oh0_25, oh0_26, oh0_27, oh0_28, oh0_29, oh0_30, oh0_31, oh0_32, oh0_33, oh0_34, oh0_35, oh0_36, oh0_37])), (h0_now, .inl (cy 2, 60, .inl v_now))] r := by
  unfold f9_isDown at hM
  refine ct_oi (cc := cX9_isDown) (maxL := 2) (ty := .boolean) (by decide +kernel) rfl (Nat.le_of_ble_eq_true rfl) (lv0 := [(0, .ref h0), (1, .int p1)]) rfl ?_
  intro p e s m args below meth c A Q ls hx hb hts hown hml hK hP hD hS hA hret hl
  have hown : s.vm.findClass RX9 = some m.cls := hown
  have k50 := hts (.fieldLink RX9 50 "CaveYearsModel" "now" "[I") (List.mem_of_getElem? (i := 1) (by decide +kernel))
  have iX9 := (fun w h => (List.mem_cons_of_mem _ (List.mem_append_right _ h)) : ∀ w ∈ wsX90, w ∈ wsX9_isDown)
  refine lv_aload_n hx hb dX9_isDown_0 rfl (lv_at hl 0 rfl) ?_
  refine va_get (D := D) (ci := 9) (v := .ref h0_now) (C := RX9) (T := TX9) (N := 38) hx hb hts iX9 hown hK hP 0 rfl rfl 22 (by decide) k50 (fun _ h9 => h9) rfl dX9_isDown_1 ?_
  refine lv_bipush (v := 13) hx hb dX9_isDown_4 (by decide) ?_
  refine lv_iload_n hx hb dX9_isDown_6 rfl (lv_at hl 1 rfl) ?_
  refine lv_iadd hx hb dX9_isDown_7 ?_
  obtain ⟨h8, hM⟩ := gi_some hM
  refine va_iald hx hb hK hP 1 2 rfl rfl h8 dX9_isDown_8 ?_
  refine lv_aload_n hx hb dX9_isDown_9 rfl (lv_at hl 0 rfl) ?_
  refine va_get (D := D) (ci := 9) (v := .ref h0_now) (C := RX9) (T := TX9) (N := 38) hx hb hts iX9 hown hK hP 0 rfl rfl 22 (by decide) k50 (fun _ h9 => h9) rfl dX9_isDown_10 ?_
  refine lv_iconst (v := 0) hx hb dX9_isDown_13 (by decide) ?_
  obtain ⟨h14, hM⟩ := gi_some hM
  refine va_iald hx hb hK hP 1 2 rfl rfl h14 dX9_isDown_14 ?_
  refine lv_icmp_le (tgt := 22) hx hb dX9_isDown_15 (by decide) (fun c15 => ?_) (fun c15 => ?_)
  · have hM := g_pos c15 hM
    refine lv_iconst (v := 0) hx hb dX9_isDown_22 (by decide) ?_
    obtain rfl := si1 hM
    exact hret _ _ _ _ _ dX9_isDown_23 rfl rfl hP hD hS
  · have hM := g_neg c15 hM
    refine lv_iconst (v := 1) hx hb dX9_isDown_18 (by decide) ?_
    refine lv_goto (tgt := 23) hx hb dX9_isDown_19 (by decide) ?_
    obtain rfl := si1 hM
    exact hret _ _ _ _ _ dX9_isDown_23 rfl rfl hP hD hS

-- ===== X9_downSet downSet ()I =====
abbrev r9_downSet : Room := { frames := 1, cells := 0, slots := 0, locals := 21 }
def f9_downSet_L4 (N : Nat) (v_persons : Nat → Int32) (v_now : Nat → Int32) : Nat → Int32 → Int32 → Option Int32
  | 0, _, _ => none
  | n + 1, x1_4, x2_4 => gi (0 : Int32) 2 (if (v_persons (0 : Int32).toNatClampNeg) ≤ x2_4 then (some x1_4) else (ob1 (f9_isDown N x2_4 v_now) fun r17 => if r17 = (0 : Int32) then ((f9_downSet_L4 N v_persons v_now n) (x1_4 ||| (0 : Int32)) (x2_4 + (1 : Int32))) else ((f9_downSet_L4 N v_persons v_now n) (x1_4 ||| ((1 : Int32) <<< (x2_4 &&& 31))) (x2_4 + (1 : Int32)))))
def f9_downSet (N : Nat) (v_persons : Nat → Int32) (v_now : Nat → Int32) : Option Int32 :=
  ob1 (f9_downSet_L4 N v_persons v_now N (0 : Int32) (0 : Int32)) fun e1_4 => some e1_4
set_option maxHeartbeats 4000000 in
set_option maxRecDepth 100000 in
theorem c9_downSet (l : Launch) (D : va_G) (cy : Nat → ClassId) (N : Nat) (h0 h0_persons h0_now : Nat) (oh0_0 oh0_1 oh0_2 oh0_3 oh0_4 oh0_5 oh0_6 oh0_7 oh0_9 oh0_10 oh0_11 oh0_12 oh0_13 oh0_14 oh0_15 oh0_16 oh0_17 oh0_18 oh0_19 oh0_20 oh0_21 oh0_23 oh0_24 oh0_25 oh0_26 oh0_27 oh0_28 oh0_29 oh0_30 oh0_31 oh0_32 oh0_33 oh0_34 oh0_35 oh0_36 oh0_37 : Value) (v_persons : Nat → Int32) (v_now : Nat → Int32) (r : Int32) (hM : f9_downSet N v_persons v_now = some r) (sz : Nat) : CTi l yX9_downSet wsX9_downSet r9_downSet [.ref h0] D cy sz [(h0, .inr (9, [oh0_0, oh0_1, oh0_2, oh0_3, oh0_4, oh0_5, oh0_6, oh0_7, .ref h0_persons, oh0_9, oh0_10, oh0_11, oh0_12, oh0_13, oh0_14, oh0_15, oh0_16, oh0_17, oh0_18, oh0_19, oh0_20, oh0_21, .ref h0_now, oh0_23, oh0_24, oh0_25, oh0_26, oh0_27, oh0_28, oh0_29, oh0_30, oh0_31, oh0_32, oh0_33, oh0_34, oh0_35, oh0_36, oh0_37])), (h0_persons, .inl (cy 2, 2, .inl v_persons)), (h0_now, .inl (cy 2, 60, .inl v_now))] [(h0, .inr (9, [oh0_0, oh0_1, oh0_2, oh0_3, oh0_4, oh0_5, oh0_6, oh0_7, .ref h0_persons, oh0_9, oh0_10, oh0_11, oh0_12, oh0_13, oh0_14, oh0_15, oh0_16, oh0_17, oh0_18, oh0_19, oh0_20, oh0_21, .ref h0_now, oh0_23, oh0_24, oh0_25, oh0_26, oh0_27, oh0_28, oh0_29, oh0_30, oh0_31, oh0_32, oh0_33, oh0_34, oh0_35, oh0_36, oh0_37])), (h0_persons, .inl (cy 2, 2, .inl v_persons)), (h0_now, .inl (cy 2, 60, .inl v_now))] r := by
  unfold f9_downSet at hM
  refine ct_oi (cc := cX9_downSet) (maxL := 3) (ty := .int) (by decide +kernel) rfl (Nat.le_of_ble_eq_true rfl) (lv0 := [(0, .ref h0)]) rfl ?_
  intro p e s m args below meth c A Q ls hx hb hts hown hml hK hP hD hS hA hret hl
  have hown : s.vm.findClass RX9 = some m.cls := hown
  have k29 := hts (.fieldLink RX9 29 "CaveYearsModel" "persons" "[I") (List.mem_of_getElem? (i := 1) (by decide +kernel))
  have iX9 := (fun w h => (List.mem_cons_of_mem _ (List.mem_append_right _ h)) : ∀ w ∈ wsX90, w ∈ wsX9_downSet)
  refine lv_iconst (v := 0) hx hb dX9_downSet_0 (by decide) ?_
  refine lv_istore_n (lv' := [(1, .int (0 : Int32)), (0, .ref h0)]) hx hb dX9_downSet_1 rfl hl (by decide) rfl (fun ls hl => ?_)
  refine lv_iconst (v := 0) hx hb dX9_downSet_2 (by decide) ?_
  refine lv_istore_n (lv' := [(2, .int (0 : Int32)), (1, .int (0 : Int32)), (0, .ref h0)]) hx hb dX9_downSet_3 rfl hl (by decide) rfl (fun ls hl => ?_)
  have L4 : ∀ (n : Nat) (x1_4 : Int32) (x2_4 : Int32) (e1_4 : Int32) (H : Heap) (locs : List Loc) (ls : Array Slot), f9_downSet_L4 N v_persons v_now n x1_4 x2_4 = some e1_4 → va_P D vwCl [(h0, .inr (9, [oh0_0, oh0_1, oh0_2, oh0_3, oh0_4, oh0_5, oh0_6, oh0_7, .ref h0_persons, oh0_9, oh0_10, oh0_11, oh0_12, oh0_13, oh0_14, oh0_15, oh0_16, oh0_17, oh0_18, oh0_19, oh0_20, oh0_21, .ref h0_now, oh0_23, oh0_24, oh0_25, oh0_26, oh0_27, oh0_28, oh0_29, oh0_30, oh0_31, oh0_32, oh0_33, oh0_34, oh0_35, oh0_36, oh0_37])), (h0_persons, .inl (cy 2, 2, .inl v_persons)), (h0_now, .inl (cy 2, 60, .inl v_now))] H → va_D A [(h0, .inr (9, [oh0_0, oh0_1, oh0_2, oh0_3, oh0_4, oh0_5, oh0_6, oh0_7, .ref h0_persons, oh0_9, oh0_10, oh0_11, oh0_12, oh0_13, oh0_14, oh0_15, oh0_16, oh0_17, oh0_18, oh0_19, oh0_20, oh0_21, .ref h0_now, oh0_23, oh0_24, oh0_25, oh0_26, oh0_27, oh0_28, oh0_29, oh0_30, oh0_31, oh0_32, oh0_33, oh0_34, oh0_35, oh0_36, oh0_37])), (h0_persons, .inl (cy 2, 2, .inl v_persons)), (h0_now, .inl (cy 2, 60, .inl v_now))] → va_S A s.heap H locs → lv_has ls 3 [(0, .ref h0), (1, .int x1_4), (2, .int x2_4)] → (∀ (H : Heap) (locs : List Loc) (ls : Array Slot), va_P D vwCl [(h0, .inr (9, [oh0_0, oh0_1, oh0_2, oh0_3, oh0_4, oh0_5, oh0_6, oh0_7, .ref h0_persons, oh0_9, oh0_10, oh0_11, oh0_12, oh0_13, oh0_14, oh0_15, oh0_16, oh0_17, oh0_18, oh0_19, oh0_20, oh0_21, .ref h0_now, oh0_23, oh0_24, oh0_25, oh0_26, oh0_27, oh0_28, oh0_29, oh0_30, oh0_31, oh0_32, oh0_33, oh0_34, oh0_35, oh0_36, oh0_37])), (h0_persons, .inl (cy 2, 2, .inl v_persons)), (h0_now, .inl (cy 2, 60, .inl v_now))] H → va_D A [(h0, .inr (9, [oh0_0, oh0_1, oh0_2, oh0_3, oh0_4, oh0_5, oh0_6, oh0_7, .ref h0_persons, oh0_9, oh0_10, oh0_11, oh0_12, oh0_13, oh0_14, oh0_15, oh0_16, oh0_17, oh0_18, oh0_19, oh0_20, oh0_21, .ref h0_now, oh0_23, oh0_24, oh0_25, oh0_26, oh0_27, oh0_28, oh0_29, oh0_30, oh0_31, oh0_32, oh0_33, oh0_34, oh0_35, oh0_36, oh0_37])), (h0_persons, .inl (cy 2, 2, .inl v_persons)), (h0_now, .inl (cy 2, 60, .inl v_now))] → va_S A s.heap H locs → lv_has ls 3 [(1, .int e1_4)] → W p l e r9_downSet s m args below meth c H locs 0 0 Q (F0 m 38 ls [])) → W p l e r9_downSet s m args below meth c H locs 0 0 Q (F0 m 4 ls []) := by
    intro n4
    induction n4 with
    | zero =>
      intro x1_4 x2_4 e1_4 H locs ls hM
      exact absurd hM (by simp [f9_downSet_L4])
    | succ n4 ih4 =>
      intro x1_4 x2_4 e1_4 H locs ls hM hP hD hS hl K
      rw [f9_downSet_L4] at hM
      refine lv_iload_n hx hb dX9_downSet_4 rfl (lv_at hl 2 rfl) ?_
      refine lv_aload_n hx hb dX9_downSet_5 rfl (lv_at hl 0 rfl) ?_
      refine va_get (D := D) (ci := 9) (v := .ref h0_persons) (C := RX9) (T := TX9) (N := 38) hx hb hts iX9 hown hK hP 0 rfl rfl 8 (by decide) k29 (fun _ h9 => h9) rfl dX9_downSet_6 ?_
      refine lv_iconst (v := 0) hx hb dX9_downSet_9 (by decide) ?_
      obtain ⟨h10, hM⟩ := gi_some hM
      refine va_iald hx hb hK hP 1 2 rfl rfl h10 dX9_downSet_10 ?_
      refine lv_icmp_ge (tgt := 38) hx hb dX9_downSet_11 (by decide) (fun c11 => ?_) (fun c11 => ?_)
      · have hM := g_pos c11 hM
        obtain rfl := si1 hM
        exact K _ _ _ hP hD hS (lv_sub hl [1] rfl)
      · have hM := g_neg c11 hM
        refine lv_iload_n hx hb dX9_downSet_14 rfl (lv_at hl 1 rfl) ?_
        refine lv_aload_n hx hb dX9_downSet_15 rfl (lv_at hl 0 rfl) ?_
        refine lv_iload_n hx hb dX9_downSet_16 rfl (lv_at hl 2 rfl) ?_
        obtain ⟨r17, hc17, hM⟩ := ob1_some hM
        refine cl_vi (As := [.int x2_4]) (rest := [.int x1_4]) (ci := 9) (q0 := 0) (wr := [(h0_persons, .inl (cy 2, 2, .inl v_persons))]) (ws2 := [(h0, .inr (9, [oh0_0, oh0_1, oh0_2, oh0_3, oh0_4, oh0_5, oh0_6, oh0_7, .ref h0_persons, oh0_9, oh0_10, oh0_11, oh0_12, oh0_13, oh0_14, oh0_15, oh0_16, oh0_17, oh0_18, oh0_19, oh0_20, oh0_21, .ref h0_now, oh0_23, oh0_24, oh0_25, oh0_26, oh0_27, oh0_28, oh0_29, oh0_30, oh0_31, oh0_32, oh0_33, oh0_34, oh0_35, oh0_36, oh0_37])), (h0_persons, .inl (cy 2, 2, .inl v_persons)), (h0_now, .inl (cy 2, 60, .inl v_now))]) (isC := [0, 2]) (isR := [1]) (pm := [1, 0, 2]) hx hb hml hown hts (c9_isDown l D cy N h0 h0_now oh0_0 oh0_1 oh0_2 oh0_3 oh0_4 oh0_5 oh0_6 oh0_7 (.ref h0_persons) oh0_9 oh0_10 oh0_11 oh0_12 oh0_13 oh0_14 oh0_15 oh0_16 oh0_17 oh0_18 oh0_19 oh0_20 oh0_21 oh0_23 oh0_24 oh0_25 oh0_26 oh0_27 oh0_28 oh0_29 oh0_30 oh0_31 oh0_32 oh0_33 oh0_34 oh0_35 oh0_36 oh0_37 x2_4 v_now r17 hc17) (cwV 1 hts gX9_downSet_X9_isDown rfl rfl rfl (by decide +kernel) ⟨Nat.le_of_ble_eq_true rfl, Nat.le_of_ble_eq_true rfl⟩) hK hP hD hS hA rfl rfl rfl rfl rfl (by decide) rfl rfl rfl hl.1 (Nat.le_of_ble_eq_true rfl) dX9_downSet_17 ⟨Nat.zero_le _, Nat.zero_le _⟩ rfl rfl (fun H locs hP hD hS => ?_)
        refine lv_if_eq (tgt := 29) hx hb dX9_downSet_20 (by decide) (fun c20 => ?_) (fun c20 => ?_)
        · have hM := g_pos c20 hM
          refine lv_iconst (v := 0) hx hb dX9_downSet_29 (by decide) ?_
          refine lv_ior hx hb dX9_downSet_30 ?_
          refine lv_istore_n (lv' := [(1, .int (x1_4 ||| (0 : Int32))), (0, .ref h0), (2, .int x2_4)]) hx hb dX9_downSet_31 rfl hl (by decide) rfl (fun ls hl => ?_)
          refine lv_iinc (v := x2_4 + (1 : Int32)) (lv' := [(2, .int (x2_4 + (1 : Int32))), (1, .int (x1_4 ||| (0 : Int32))), (0, .ref h0)]) hx hb dX9_downSet_32 hl (k := 2) rfl rfl (by decide) rfl (fun ls hl => ?_)
          refine lv_goto (tgt := 4) hx hb dX9_downSet_35 (by decide) ?_
          exact ih4 (x1_4 ||| (0 : Int32)) (x2_4 + (1 : Int32)) e1_4 _ _ _ hM hP hD hS (lv_sub hl [2, 1, 0] rfl) K
        · have hM := g_neg c20 hM
          refine lv_iconst (v := 1) hx hb dX9_downSet_23 (by decide) ?_
          refine lv_iload_n hx hb dX9_downSet_24 rfl (lv_at hl 2 rfl) ?_
          refine lv_ishl hx hb dX9_downSet_25 ?_
          refine lv_goto (tgt := 30) hx hb dX9_downSet_26 (by decide) ?_
          refine lv_ior hx hb dX9_downSet_30 ?_
          refine lv_istore_n (lv' := [(1, .int (x1_4 ||| ((1 : Int32) <<< (x2_4 &&& 31)))), (0, .ref h0), (2, .int x2_4)]) hx hb dX9_downSet_31 rfl hl (by decide) rfl (fun ls hl => ?_)
          refine lv_iinc (v := x2_4 + (1 : Int32)) (lv' := [(2, .int (x2_4 + (1 : Int32))), (1, .int (x1_4 ||| ((1 : Int32) <<< (x2_4 &&& 31)))), (0, .ref h0)]) hx hb dX9_downSet_32 hl (k := 2) rfl rfl (by decide) rfl (fun ls hl => ?_)
          refine lv_goto (tgt := 4) hx hb dX9_downSet_35 (by decide) ?_
          exact ih4 (x1_4 ||| ((1 : Int32) <<< (x2_4 &&& 31))) (x2_4 + (1 : Int32)) e1_4 _ _ _ hM hP hD hS (lv_sub hl [2, 1, 0] rfl) K
  obtain ⟨e1_4, hL4, hM⟩ := ob1_some hM
  refine L4 N (0 : Int32) (0 : Int32) e1_4 _ _ _ hL4 hP hD hS (lv_sub hl [2, 1, 0] rfl) ?_
  intro H locs ls hP hD hS hl
  refine lv_iload_n hx hb dX9_downSet_38 rfl (lv_at hl 0 rfl) ?_
  obtain rfl := si1 hM
  exact hret _ _ _ _ _ dX9_downSet_39 rfl rfl hP hD hS

-- ===== X9_stayTime stayTime ()I =====
abbrev r9_stayTime : Room := { frames := 0, cells := 0, slots := 0, locals := 0 }
def f9_stayTime_L4 (N : Nat) (v_stayMany : Int32) (v_rates : Nat → Int32) (v_stay : Nat → Int32) : Nat → Int32 → Int32 → Option Int32
  | 0, _, _ => none
  | n + 1, x1_4, x2_4 => if v_stayMany ≤ x2_4 then (some x1_4) else (gi x2_4 40 (gi (v_stay x2_4.toNatClampNeg) 14 ((f9_stayTime_L4 N v_stayMany v_rates v_stay n) (x1_4 + (v_rates (v_stay x2_4.toNatClampNeg).toNatClampNeg)) (x2_4 + (1 : Int32)))))
def f9_stayTime (N : Nat) (v_stayMany : Int32) (v_rates : Nat → Int32) (v_stay : Nat → Int32) : Option Int32 :=
  ob1 (f9_stayTime_L4 N v_stayMany v_rates v_stay N (0 : Int32) (0 : Int32)) fun e1_4 => some e1_4
set_option maxHeartbeats 4000000 in
set_option maxRecDepth 100000 in
theorem c9_stayTime (l : Launch) (D : va_G) (cy : Nat → ClassId) (N : Nat) (h0 h0_rates h0_stay : Nat) (oh0_0 oh0_1 oh0_2 oh0_3 oh0_5 oh0_6 oh0_7 oh0_8 oh0_9 oh0_10 oh0_11 oh0_12 oh0_13 oh0_14 oh0_15 oh0_16 oh0_17 oh0_18 oh0_19 oh0_20 oh0_21 oh0_22 oh0_23 oh0_26 oh0_27 oh0_28 oh0_29 oh0_30 oh0_31 oh0_32 oh0_33 oh0_34 oh0_35 oh0_36 oh0_37 : Value) (v_stayMany : Int32) (v_rates : Nat → Int32) (v_stay : Nat → Int32) (r : Int32) (hM : f9_stayTime N v_stayMany v_rates v_stay = some r) (sz : Nat) : CTi l yX9_stayTime wsX9_stayTime r9_stayTime [.ref h0] D cy sz [(h0, .inr (9, [oh0_0, oh0_1, oh0_2, oh0_3, .ref h0_rates, oh0_5, oh0_6, oh0_7, oh0_8, oh0_9, oh0_10, oh0_11, oh0_12, oh0_13, oh0_14, oh0_15, oh0_16, oh0_17, oh0_18, oh0_19, oh0_20, oh0_21, oh0_22, oh0_23, .ref h0_stay, .int v_stayMany, oh0_26, oh0_27, oh0_28, oh0_29, oh0_30, oh0_31, oh0_32, oh0_33, oh0_34, oh0_35, oh0_36, oh0_37])), (h0_rates, .inl (cy 2, 14, .inl v_rates)), (h0_stay, .inl (cy 2, 40, .inl v_stay))] [(h0, .inr (9, [oh0_0, oh0_1, oh0_2, oh0_3, .ref h0_rates, oh0_5, oh0_6, oh0_7, oh0_8, oh0_9, oh0_10, oh0_11, oh0_12, oh0_13, oh0_14, oh0_15, oh0_16, oh0_17, oh0_18, oh0_19, oh0_20, oh0_21, oh0_22, oh0_23, .ref h0_stay, .int v_stayMany, oh0_26, oh0_27, oh0_28, oh0_29, oh0_30, oh0_31, oh0_32, oh0_33, oh0_34, oh0_35, oh0_36, oh0_37])), (h0_rates, .inl (cy 2, 14, .inl v_rates)), (h0_stay, .inl (cy 2, 40, .inl v_stay))] r := by
  unfold f9_stayTime at hM
  refine ct_oi (cc := cX9_stayTime) (maxL := 3) (ty := .int) (by decide +kernel) rfl (Nat.le_of_ble_eq_true rfl) (lv0 := [(0, .ref h0)]) rfl ?_
  intro p e s m args below meth c A Q ls hx hb hts hown hml hK hP hD hS hA hret hl
  have hown : s.vm.findClass RX9 = some m.cls := hown
  have k159 := hts (.fieldLink RX9 159 "CaveYearsModel" "stayMany" "I") (List.mem_of_getElem? (i := 1) (by decide +kernel))
  have iX9 := (fun w h => (List.mem_cons_of_mem _ (List.mem_append_right _ h)) : ∀ w ∈ wsX90, w ∈ wsX9_stayTime)
  have k17 := hts (.fieldLink RX9 17 "CaveYearsModel" "rates" "[I") (List.mem_of_getElem? (i := 2) (by decide +kernel))
  have k57 := hts (.fieldLink RX9 57 "CaveYearsModel" "stay" "[I") (List.mem_of_getElem? (i := 3) (by decide +kernel))
  refine lv_iconst (v := 0) hx hb dX9_stayTime_0 (by decide) ?_
  refine lv_istore_n (lv' := [(1, .int (0 : Int32)), (0, .ref h0)]) hx hb dX9_stayTime_1 rfl hl (by decide) rfl (fun ls hl => ?_)
  refine lv_iconst (v := 0) hx hb dX9_stayTime_2 (by decide) ?_
  refine lv_istore_n (lv' := [(2, .int (0 : Int32)), (1, .int (0 : Int32)), (0, .ref h0)]) hx hb dX9_stayTime_3 rfl hl (by decide) rfl (fun ls hl => ?_)
  have L4 : ∀ (n : Nat) (x1_4 : Int32) (x2_4 : Int32) (e1_4 : Int32) (H : Heap) (locs : List Loc) (ls : Array Slot), f9_stayTime_L4 N v_stayMany v_rates v_stay n x1_4 x2_4 = some e1_4 → va_P D vwCl [(h0, .inr (9, [oh0_0, oh0_1, oh0_2, oh0_3, .ref h0_rates, oh0_5, oh0_6, oh0_7, oh0_8, oh0_9, oh0_10, oh0_11, oh0_12, oh0_13, oh0_14, oh0_15, oh0_16, oh0_17, oh0_18, oh0_19, oh0_20, oh0_21, oh0_22, oh0_23, .ref h0_stay, .int v_stayMany, oh0_26, oh0_27, oh0_28, oh0_29, oh0_30, oh0_31, oh0_32, oh0_33, oh0_34, oh0_35, oh0_36, oh0_37])), (h0_rates, .inl (cy 2, 14, .inl v_rates)), (h0_stay, .inl (cy 2, 40, .inl v_stay))] H → va_D A [(h0, .inr (9, [oh0_0, oh0_1, oh0_2, oh0_3, .ref h0_rates, oh0_5, oh0_6, oh0_7, oh0_8, oh0_9, oh0_10, oh0_11, oh0_12, oh0_13, oh0_14, oh0_15, oh0_16, oh0_17, oh0_18, oh0_19, oh0_20, oh0_21, oh0_22, oh0_23, .ref h0_stay, .int v_stayMany, oh0_26, oh0_27, oh0_28, oh0_29, oh0_30, oh0_31, oh0_32, oh0_33, oh0_34, oh0_35, oh0_36, oh0_37])), (h0_rates, .inl (cy 2, 14, .inl v_rates)), (h0_stay, .inl (cy 2, 40, .inl v_stay))] → va_S A s.heap H locs → lv_has ls 3 [(0, .ref h0), (1, .int x1_4), (2, .int x2_4)] → (∀ (H : Heap) (locs : List Loc) (ls : Array Slot), va_P D vwCl [(h0, .inr (9, [oh0_0, oh0_1, oh0_2, oh0_3, .ref h0_rates, oh0_5, oh0_6, oh0_7, oh0_8, oh0_9, oh0_10, oh0_11, oh0_12, oh0_13, oh0_14, oh0_15, oh0_16, oh0_17, oh0_18, oh0_19, oh0_20, oh0_21, oh0_22, oh0_23, .ref h0_stay, .int v_stayMany, oh0_26, oh0_27, oh0_28, oh0_29, oh0_30, oh0_31, oh0_32, oh0_33, oh0_34, oh0_35, oh0_36, oh0_37])), (h0_rates, .inl (cy 2, 14, .inl v_rates)), (h0_stay, .inl (cy 2, 40, .inl v_stay))] H → va_D A [(h0, .inr (9, [oh0_0, oh0_1, oh0_2, oh0_3, .ref h0_rates, oh0_5, oh0_6, oh0_7, oh0_8, oh0_9, oh0_10, oh0_11, oh0_12, oh0_13, oh0_14, oh0_15, oh0_16, oh0_17, oh0_18, oh0_19, oh0_20, oh0_21, oh0_22, oh0_23, .ref h0_stay, .int v_stayMany, oh0_26, oh0_27, oh0_28, oh0_29, oh0_30, oh0_31, oh0_32, oh0_33, oh0_34, oh0_35, oh0_36, oh0_37])), (h0_rates, .inl (cy 2, 14, .inl v_rates)), (h0_stay, .inl (cy 2, 40, .inl v_stay))] → va_S A s.heap H locs → lv_has ls 3 [(1, .int e1_4)] → W p l e r9_stayTime s m args below meth c H locs 0 0 Q (F0 m 32 ls [])) → W p l e r9_stayTime s m args below meth c H locs 0 0 Q (F0 m 4 ls []) := by
    intro n4
    induction n4 with
    | zero =>
      intro x1_4 x2_4 e1_4 H locs ls hM
      exact absurd hM (by simp [f9_stayTime_L4])
    | succ n4 ih4 =>
      intro x1_4 x2_4 e1_4 H locs ls hM hP hD hS hl K
      rw [f9_stayTime_L4] at hM
      refine lv_iload_n hx hb dX9_stayTime_4 rfl (lv_at hl 2 rfl) ?_
      refine lv_aload_n hx hb dX9_stayTime_5 rfl (lv_at hl 0 rfl) ?_
      refine va_get (D := D) (ci := 9) (v := .int v_stayMany) (C := RX9) (T := TX9) (N := 38) hx hb hts iX9 hown hK hP 0 rfl rfl 25 (by decide) k159 (fun _ h9 => h9) rfl dX9_stayTime_6 ?_
      refine lv_icmp_ge (tgt := 32) hx hb dX9_stayTime_9 (by decide) (fun c9 => ?_) (fun c9 => ?_)
      · have hM := g_pos c9 hM
        obtain rfl := si1 hM
        exact K _ _ _ hP hD hS (lv_sub hl [1] rfl)
      · have hM := g_neg c9 hM
        refine lv_iload_n hx hb dX9_stayTime_12 rfl (lv_at hl 1 rfl) ?_
        refine lv_aload_n hx hb dX9_stayTime_13 rfl (lv_at hl 0 rfl) ?_
        refine va_get (D := D) (ci := 9) (v := .ref h0_rates) (C := RX9) (T := TX9) (N := 38) hx hb hts iX9 hown hK hP 0 rfl rfl 4 (by decide) k17 (fun _ h9 => h9) rfl dX9_stayTime_14 ?_
        refine lv_aload_n hx hb dX9_stayTime_17 rfl (lv_at hl 0 rfl) ?_
        refine va_get (D := D) (ci := 9) (v := .ref h0_stay) (C := RX9) (T := TX9) (N := 38) hx hb hts iX9 hown hK hP 0 rfl rfl 24 (by decide) k57 (fun _ h9 => h9) rfl dX9_stayTime_18 ?_
        refine lv_iload_n hx hb dX9_stayTime_21 rfl (lv_at hl 2 rfl) ?_
        obtain ⟨h22, hM⟩ := gi_some hM
        refine va_iald hx hb hK hP 2 2 rfl rfl h22 dX9_stayTime_22 ?_
        obtain ⟨h23, hM⟩ := gi_some hM
        refine va_iald hx hb hK hP 1 2 rfl rfl h23 dX9_stayTime_23 ?_
        refine lv_iadd hx hb dX9_stayTime_24 ?_
        refine lv_istore_n (lv' := [(1, .int (x1_4 + (v_rates (v_stay x2_4.toNatClampNeg).toNatClampNeg))), (0, .ref h0), (2, .int x2_4)]) hx hb dX9_stayTime_25 rfl hl (by decide) rfl (fun ls hl => ?_)
        refine lv_iinc (v := x2_4 + (1 : Int32)) (lv' := [(2, .int (x2_4 + (1 : Int32))), (1, .int (x1_4 + (v_rates (v_stay x2_4.toNatClampNeg).toNatClampNeg))), (0, .ref h0)]) hx hb dX9_stayTime_26 hl (k := 2) rfl rfl (by decide) rfl (fun ls hl => ?_)
        refine lv_goto (tgt := 4) hx hb dX9_stayTime_29 (by decide) ?_
        exact ih4 (x1_4 + (v_rates (v_stay x2_4.toNatClampNeg).toNatClampNeg)) (x2_4 + (1 : Int32)) e1_4 _ _ _ hM hP hD hS (lv_sub hl [2, 1, 0] rfl) K
  obtain ⟨e1_4, hL4, hM⟩ := ob1_some hM
  refine L4 N (0 : Int32) (0 : Int32) e1_4 _ _ _ hL4 hP hD hS (lv_sub hl [2, 1, 0] rfl) ?_
  intro H locs ls hP hD hS hl
  refine lv_iload_n hx hb dX9_stayTime_32 rfl (lv_at hl 0 rfl) ?_
  obtain rfl := si1 hM
  exact hret _ _ _ _ _ dX9_stayTime_33 rfl rfl hP hD hS

-- ===== X9_told told (I)I =====
abbrev r9_told : Room := { frames := 2, cells := 0, slots := 0, locals := 43 }
def f9_told (N : Nat) (p1 : Int32) (v_typed : Int32) (v_stayMany : Int32) (v_tries : Int32) (v_lines : Int32) (v_parts : Nat → Int32) (v_rates : Nat → Int32) (v_mouths : Nat → Int32) (v_persons : Nat → Int32) (v_interest : Nat → Int32) (v_winters : Nat → Int32) (v_now : Nat → Int32) (v_stay : Nat → Int32) : Option Int32 :=
  if p1 = (0 : Int32) then (gi (0 : Int32) 2 (some (v_parts (0 : Int32).toNatClampNeg))) else (if p1 = (1 : Int32) then (gi (0 : Int32) 2 (some (v_mouths (0 : Int32).toNatClampNeg))) else (if p1 = (2 : Int32) then (gi (0 : Int32) 2 (some (v_persons (0 : Int32).toNatClampNeg))) else (if p1 = (3 : Int32) then (gi (0 : Int32) 2 (some (v_interest (0 : Int32).toNatClampNeg))) else (if p1 = (4 : Int32) then (gi (0 : Int32) 2 (some (v_winters (0 : Int32).toNatClampNeg))) else (if p1 = (5 : Int32) then (some v_typed) else (if p1 = (6 : Int32) then (gi (0 : Int32) 60 (some (v_now (0 : Int32).toNatClampNeg))) else (if p1 = (7 : Int32) then (ob1 (f9_downSet N v_persons v_now) fun r112 => some r112) else (if p1 = (8 : Int32) then (some v_stayMany) else (if p1 = (9 : Int32) then (ob1 (f9_stayTime N v_stayMany v_rates v_stay) fun r122 => some r122) else (if p1 = (10 : Int32) then (some v_tries) else (if p1 = (11 : Int32) then (some v_lines) else (some (-1000000002 : Int32)))))))))))))
set_option maxHeartbeats 4000000 in
set_option maxRecDepth 100000 in
theorem c9_told (l : Launch) (D : va_G) (cy : Nat → ClassId) (N : Nat) (h0 h0_parts h0_rates h0_mouths h0_persons h0_interest h0_winters h0_now h0_stay : Nat) (oh0_0 oh0_1 oh0_5 oh0_6 oh0_9 oh0_10 oh0_13 oh0_14 oh0_15 oh0_16 oh0_17 oh0_18 oh0_19 oh0_20 oh0_21 oh0_23 oh0_26 oh0_27 oh0_28 oh0_29 oh0_30 oh0_31 oh0_33 oh0_34 oh0_36 oh0_37 : Value) (p1 : Int32) (v_typed : Int32) (v_stayMany : Int32) (v_tries : Int32) (v_lines : Int32) (v_parts : Nat → Int32) (v_rates : Nat → Int32) (v_mouths : Nat → Int32) (v_persons : Nat → Int32) (v_interest : Nat → Int32) (v_winters : Nat → Int32) (v_now : Nat → Int32) (v_stay : Nat → Int32) (r : Int32) (hM : f9_told N p1 v_typed v_stayMany v_tries v_lines v_parts v_rates v_mouths v_persons v_interest v_winters v_now v_stay = some r) (sz : Nat) : CTi l yX9_told wsX9_told r9_told [.ref h0, .int p1] D cy sz [(h0, .inr (9, [oh0_0, oh0_1, .int v_typed, .ref h0_parts, .ref h0_rates, oh0_5, oh0_6, .ref h0_mouths, .ref h0_persons, oh0_9, oh0_10, .ref h0_interest, .ref h0_winters, oh0_13, oh0_14, oh0_15, oh0_16, oh0_17, oh0_18, oh0_19, oh0_20, oh0_21, .ref h0_now, oh0_23, .ref h0_stay, .int v_stayMany, oh0_26, oh0_27, oh0_28, oh0_29, oh0_30, oh0_31, .int v_tries, oh0_33, oh0_34, .int v_lines, oh0_36, oh0_37])), (h0_parts, .inl (cy 2, 2, .inl v_parts)), (h0_rates, .inl (cy 2, 14, .inl v_rates)), (h0_mouths, .inl (cy 2, 2, .inl v_mouths)), (h0_persons, .inl (cy 2, 2, .inl v_persons)), (h0_interest, .inl (cy 2, 2, .inl v_interest)), (h0_winters, .inl (cy 2, 2, .inl v_winters)), (h0_now, .inl (cy 2, 60, .inl v_now)), (h0_stay, .inl (cy 2, 40, .inl v_stay))] [(h0, .inr (9, [oh0_0, oh0_1, .int v_typed, .ref h0_parts, .ref h0_rates, oh0_5, oh0_6, .ref h0_mouths, .ref h0_persons, oh0_9, oh0_10, .ref h0_interest, .ref h0_winters, oh0_13, oh0_14, oh0_15, oh0_16, oh0_17, oh0_18, oh0_19, oh0_20, oh0_21, .ref h0_now, oh0_23, .ref h0_stay, .int v_stayMany, oh0_26, oh0_27, oh0_28, oh0_29, oh0_30, oh0_31, .int v_tries, oh0_33, oh0_34, .int v_lines, oh0_36, oh0_37])), (h0_parts, .inl (cy 2, 2, .inl v_parts)), (h0_rates, .inl (cy 2, 14, .inl v_rates)), (h0_mouths, .inl (cy 2, 2, .inl v_mouths)), (h0_persons, .inl (cy 2, 2, .inl v_persons)), (h0_interest, .inl (cy 2, 2, .inl v_interest)), (h0_winters, .inl (cy 2, 2, .inl v_winters)), (h0_now, .inl (cy 2, 60, .inl v_now)), (h0_stay, .inl (cy 2, 40, .inl v_stay))] r := by
  unfold f9_told at hM
  refine ct_oi (cc := cX9_told) (maxL := 2) (ty := .int) (by decide +kernel) rfl (Nat.le_of_ble_eq_true rfl) (lv0 := [(0, .ref h0), (1, .int p1)]) rfl ?_
  intro p e s m args below meth c A Q ls hx hb hts hown hml hK hP hD hS hA hret hl
  have hown : s.vm.findClass RX9 = some m.cls := hown
  have k99 := hts (.constant RX9 99 (-1000000002)) (List.mem_of_getElem? (i := 11) (by decide +kernel))
  have k165 := hts (.fieldLink RX9 165 "CaveYearsModel" "lines" "I") (List.mem_of_getElem? (i := 10) (by decide +kernel))
  have iX9 := (fun w h => (List.mem_cons_of_mem _ (List.mem_append_right _ h)) : ∀ w ∈ wsX90, w ∈ wsX9_told)
  have k162 := hts (.fieldLink RX9 162 "CaveYearsModel" "tries" "I") (List.mem_of_getElem? (i := 9) (by decide +kernel))
  have k159 := hts (.fieldLink RX9 159 "CaveYearsModel" "stayMany" "I") (List.mem_of_getElem? (i := 8) (by decide +kernel))
  have k50 := hts (.fieldLink RX9 50 "CaveYearsModel" "now" "[I") (List.mem_of_getElem? (i := 7) (by decide +kernel))
  have k100 := hts (.fieldLink RX9 100 "CaveYearsModel" "typed" "I") (List.mem_of_getElem? (i := 6) (by decide +kernel))
  have k41 := hts (.fieldLink RX9 41 "CaveYearsModel" "winters" "[I") (List.mem_of_getElem? (i := 5) (by decide +kernel))
  have k38 := hts (.fieldLink RX9 38 "CaveYearsModel" "interest" "[I") (List.mem_of_getElem? (i := 4) (by decide +kernel))
  have k29 := hts (.fieldLink RX9 29 "CaveYearsModel" "persons" "[I") (List.mem_of_getElem? (i := 3) (by decide +kernel))
  have k26 := hts (.fieldLink RX9 26 "CaveYearsModel" "mouths" "[I") (List.mem_of_getElem? (i := 2) (by decide +kernel))
  have k13 := hts (.fieldLink RX9 13 "CaveYearsModel" "parts" "[I") (List.mem_of_getElem? (i := 1) (by decide +kernel))
  refine lv_iload_n hx hb dX9_told_0 rfl (lv_at hl 1 rfl) ?_
  rcases Classical.em (p1 = (0 : Int32)) with c1_0 | c1_0
  · have hM := g_pos c1_0 hM
    refine lv_tableIn (off := 63) (tgt := 64) hx hb dX9_told_1 (by rw [c1_0]; decide) (by rw [c1_0]; decide) (by rw [c1_0]; decide) (by decide) ?_
    refine lv_aload_n hx hb dX9_told_64 rfl (lv_at hl 0 rfl) ?_
    refine va_get (D := D) (ci := 9) (v := .ref h0_parts) (C := RX9) (T := TX9) (N := 38) hx hb hts iX9 hown hK hP 0 rfl rfl 3 (by decide) k13 (fun _ h9 => h9) rfl dX9_told_65 ?_
    refine lv_iconst (v := 0) hx hb dX9_told_68 (by decide) ?_
    obtain ⟨h69, hM⟩ := gi_some hM
    refine va_iald hx hb hK hP 1 2 rfl rfl h69 dX9_told_69 ?_
    obtain rfl := si1 hM
    exact hret _ _ _ _ _ dX9_told_70 rfl rfl hP hD hS
  · have hM := g_neg c1_0 hM
    rcases Classical.em (p1 = (1 : Int32)) with c1_1 | c1_1
    · have hM := g_pos c1_1 hM
      refine lv_tableIn (off := 70) (tgt := 71) hx hb dX9_told_1 (by rw [c1_1]; decide) (by rw [c1_1]; decide) (by rw [c1_1]; decide) (by decide) ?_
      refine lv_aload_n hx hb dX9_told_71 rfl (lv_at hl 0 rfl) ?_
      refine va_get (D := D) (ci := 9) (v := .ref h0_mouths) (C := RX9) (T := TX9) (N := 38) hx hb hts iX9 hown hK hP 0 rfl rfl 7 (by decide) k26 (fun _ h9 => h9) rfl dX9_told_72 ?_
      refine lv_iconst (v := 0) hx hb dX9_told_75 (by decide) ?_
      obtain ⟨h76, hM⟩ := gi_some hM
      refine va_iald hx hb hK hP 3 2 rfl rfl h76 dX9_told_76 ?_
      obtain rfl := si1 hM
      exact hret _ _ _ _ _ dX9_told_77 rfl rfl hP hD hS
    · have hM := g_neg c1_1 hM
      rcases Classical.em (p1 = (2 : Int32)) with c1_2 | c1_2
      · have hM := g_pos c1_2 hM
        refine lv_tableIn (off := 77) (tgt := 78) hx hb dX9_told_1 (by rw [c1_2]; decide) (by rw [c1_2]; decide) (by rw [c1_2]; decide) (by decide) ?_
        refine lv_aload_n hx hb dX9_told_78 rfl (lv_at hl 0 rfl) ?_
        refine va_get (D := D) (ci := 9) (v := .ref h0_persons) (C := RX9) (T := TX9) (N := 38) hx hb hts iX9 hown hK hP 0 rfl rfl 8 (by decide) k29 (fun _ h9 => h9) rfl dX9_told_79 ?_
        refine lv_iconst (v := 0) hx hb dX9_told_82 (by decide) ?_
        obtain ⟨h83, hM⟩ := gi_some hM
        refine va_iald hx hb hK hP 4 2 rfl rfl h83 dX9_told_83 ?_
        obtain rfl := si1 hM
        exact hret _ _ _ _ _ dX9_told_84 rfl rfl hP hD hS
      · have hM := g_neg c1_2 hM
        rcases Classical.em (p1 = (3 : Int32)) with c1_3 | c1_3
        · have hM := g_pos c1_3 hM
          refine lv_tableIn (off := 84) (tgt := 85) hx hb dX9_told_1 (by rw [c1_3]; decide) (by rw [c1_3]; decide) (by rw [c1_3]; decide) (by decide) ?_
          refine lv_aload_n hx hb dX9_told_85 rfl (lv_at hl 0 rfl) ?_
          refine va_get (D := D) (ci := 9) (v := .ref h0_interest) (C := RX9) (T := TX9) (N := 38) hx hb hts iX9 hown hK hP 0 rfl rfl 11 (by decide) k38 (fun _ h9 => h9) rfl dX9_told_86 ?_
          refine lv_iconst (v := 0) hx hb dX9_told_89 (by decide) ?_
          obtain ⟨h90, hM⟩ := gi_some hM
          refine va_iald hx hb hK hP 5 2 rfl rfl h90 dX9_told_90 ?_
          obtain rfl := si1 hM
          exact hret _ _ _ _ _ dX9_told_91 rfl rfl hP hD hS
        · have hM := g_neg c1_3 hM
          rcases Classical.em (p1 = (4 : Int32)) with c1_4 | c1_4
          · have hM := g_pos c1_4 hM
            refine lv_tableIn (off := 91) (tgt := 92) hx hb dX9_told_1 (by rw [c1_4]; decide) (by rw [c1_4]; decide) (by rw [c1_4]; decide) (by decide) ?_
            refine lv_aload_n hx hb dX9_told_92 rfl (lv_at hl 0 rfl) ?_
            refine va_get (D := D) (ci := 9) (v := .ref h0_winters) (C := RX9) (T := TX9) (N := 38) hx hb hts iX9 hown hK hP 0 rfl rfl 12 (by decide) k41 (fun _ h9 => h9) rfl dX9_told_93 ?_
            refine lv_iconst (v := 0) hx hb dX9_told_96 (by decide) ?_
            obtain ⟨h97, hM⟩ := gi_some hM
            refine va_iald hx hb hK hP 6 2 rfl rfl h97 dX9_told_97 ?_
            obtain rfl := si1 hM
            exact hret _ _ _ _ _ dX9_told_98 rfl rfl hP hD hS
          · have hM := g_neg c1_4 hM
            rcases Classical.em (p1 = (5 : Int32)) with c1_5 | c1_5
            · have hM := g_pos c1_5 hM
              refine lv_tableIn (off := 98) (tgt := 99) hx hb dX9_told_1 (by rw [c1_5]; decide) (by rw [c1_5]; decide) (by rw [c1_5]; decide) (by decide) ?_
              refine lv_aload_n hx hb dX9_told_99 rfl (lv_at hl 0 rfl) ?_
              refine va_get (D := D) (ci := 9) (v := .int v_typed) (C := RX9) (T := TX9) (N := 38) hx hb hts iX9 hown hK hP 0 rfl rfl 2 (by decide) k100 (fun _ h9 => h9) rfl dX9_told_100 ?_
              obtain rfl := si1 hM
              exact hret _ _ _ _ _ dX9_told_103 rfl rfl hP hD hS
            · have hM := g_neg c1_5 hM
              rcases Classical.em (p1 = (6 : Int32)) with c1_6 | c1_6
              · have hM := g_pos c1_6 hM
                refine lv_tableIn (off := 103) (tgt := 104) hx hb dX9_told_1 (by rw [c1_6]; decide) (by rw [c1_6]; decide) (by rw [c1_6]; decide) (by decide) ?_
                refine lv_aload_n hx hb dX9_told_104 rfl (lv_at hl 0 rfl) ?_
                refine va_get (D := D) (ci := 9) (v := .ref h0_now) (C := RX9) (T := TX9) (N := 38) hx hb hts iX9 hown hK hP 0 rfl rfl 22 (by decide) k50 (fun _ h9 => h9) rfl dX9_told_105 ?_
                refine lv_iconst (v := 0) hx hb dX9_told_108 (by decide) ?_
                obtain ⟨h109, hM⟩ := gi_some hM
                refine va_iald hx hb hK hP 7 2 rfl rfl h109 dX9_told_109 ?_
                obtain rfl := si1 hM
                exact hret _ _ _ _ _ dX9_told_110 rfl rfl hP hD hS
              · have hM := g_neg c1_6 hM
                rcases Classical.em (p1 = (7 : Int32)) with c1_7 | c1_7
                · have hM := g_pos c1_7 hM
                  refine lv_tableIn (off := 110) (tgt := 111) hx hb dX9_told_1 (by rw [c1_7]; decide) (by rw [c1_7]; decide) (by rw [c1_7]; decide) (by decide) ?_
                  refine lv_aload_n hx hb dX9_told_111 rfl (lv_at hl 0 rfl) ?_
                  obtain ⟨r112, hc112, hM⟩ := ob1_some hM
                  refine cl_vi (As := []) (rest := []) (ci := 9) (q0 := 0) (wr := [(h0_parts, .inl (cy 2, 2, .inl v_parts)), (h0_rates, .inl (cy 2, 14, .inl v_rates)), (h0_mouths, .inl (cy 2, 2, .inl v_mouths)), (h0_interest, .inl (cy 2, 2, .inl v_interest)), (h0_winters, .inl (cy 2, 2, .inl v_winters)), (h0_stay, .inl (cy 2, 40, .inl v_stay))]) (ws2 := [(h0, .inr (9, [oh0_0, oh0_1, .int v_typed, .ref h0_parts, .ref h0_rates, oh0_5, oh0_6, .ref h0_mouths, .ref h0_persons, oh0_9, oh0_10, .ref h0_interest, .ref h0_winters, oh0_13, oh0_14, oh0_15, oh0_16, oh0_17, oh0_18, oh0_19, oh0_20, oh0_21, .ref h0_now, oh0_23, .ref h0_stay, .int v_stayMany, oh0_26, oh0_27, oh0_28, oh0_29, oh0_30, oh0_31, .int v_tries, oh0_33, oh0_34, .int v_lines, oh0_36, oh0_37])), (h0_parts, .inl (cy 2, 2, .inl v_parts)), (h0_rates, .inl (cy 2, 14, .inl v_rates)), (h0_mouths, .inl (cy 2, 2, .inl v_mouths)), (h0_persons, .inl (cy 2, 2, .inl v_persons)), (h0_interest, .inl (cy 2, 2, .inl v_interest)), (h0_winters, .inl (cy 2, 2, .inl v_winters)), (h0_now, .inl (cy 2, 60, .inl v_now)), (h0_stay, .inl (cy 2, 40, .inl v_stay))]) (isC := [0, 4, 7]) (isR := [1, 2, 3, 5, 6, 8]) (pm := [6, 0, 1, 2, 7, 3, 4, 8, 5]) hx hb hml hown hts (c9_downSet l D cy N h0 h0_persons h0_now oh0_0 oh0_1 (.int v_typed) (.ref h0_parts) (.ref h0_rates) oh0_5 oh0_6 (.ref h0_mouths) oh0_9 oh0_10 (.ref h0_interest) (.ref h0_winters) oh0_13 oh0_14 oh0_15 oh0_16 oh0_17 oh0_18 oh0_19 oh0_20 oh0_21 oh0_23 (.ref h0_stay) (.int v_stayMany) oh0_26 oh0_27 oh0_28 oh0_29 oh0_30 oh0_31 (.int v_tries) oh0_33 oh0_34 (.int v_lines) oh0_36 oh0_37 v_persons v_now r112 hc112) (cwV 0 hts gX9_told_X9_downSet rfl rfl rfl (by decide +kernel) ⟨Nat.le_of_ble_eq_true rfl, Nat.le_of_ble_eq_true rfl⟩) hK hP hD hS hA rfl rfl rfl rfl rfl (by decide) rfl rfl rfl hl.1 (Nat.le_of_ble_eq_true rfl) dX9_told_112 ⟨Nat.zero_le _, Nat.zero_le _⟩ rfl rfl (fun H locs hP hD hS => ?_)
                  obtain rfl := si1 hM
                  exact hret _ _ _ _ _ dX9_told_115 rfl rfl hP hD hS
                · have hM := g_neg c1_7 hM
                  rcases Classical.em (p1 = (8 : Int32)) with c1_8 | c1_8
                  · have hM := g_pos c1_8 hM
                    refine lv_tableIn (off := 115) (tgt := 116) hx hb dX9_told_1 (by rw [c1_8]; decide) (by rw [c1_8]; decide) (by rw [c1_8]; decide) (by decide) ?_
                    refine lv_aload_n hx hb dX9_told_116 rfl (lv_at hl 0 rfl) ?_
                    refine va_get (D := D) (ci := 9) (v := .int v_stayMany) (C := RX9) (T := TX9) (N := 38) hx hb hts iX9 hown hK hP 0 rfl rfl 25 (by decide) k159 (fun _ h9 => h9) rfl dX9_told_117 ?_
                    obtain rfl := si1 hM
                    exact hret _ _ _ _ _ dX9_told_120 rfl rfl hP hD hS
                  · have hM := g_neg c1_8 hM
                    rcases Classical.em (p1 = (9 : Int32)) with c1_9 | c1_9
                    · have hM := g_pos c1_9 hM
                      refine lv_tableIn (off := 120) (tgt := 121) hx hb dX9_told_1 (by rw [c1_9]; decide) (by rw [c1_9]; decide) (by rw [c1_9]; decide) (by decide) ?_
                      refine lv_aload_n hx hb dX9_told_121 rfl (lv_at hl 0 rfl) ?_
                      obtain ⟨r122, hc122, hM⟩ := ob1_some hM
                      refine cl_vi (As := []) (rest := []) (ci := 9) (q0 := 0) (wr := [(h0_parts, .inl (cy 2, 2, .inl v_parts)), (h0_mouths, .inl (cy 2, 2, .inl v_mouths)), (h0_persons, .inl (cy 2, 2, .inl v_persons)), (h0_interest, .inl (cy 2, 2, .inl v_interest)), (h0_winters, .inl (cy 2, 2, .inl v_winters)), (h0_now, .inl (cy 2, 60, .inl v_now))]) (ws2 := [(h0, .inr (9, [oh0_0, oh0_1, .int v_typed, .ref h0_parts, .ref h0_rates, oh0_5, oh0_6, .ref h0_mouths, .ref h0_persons, oh0_9, oh0_10, .ref h0_interest, .ref h0_winters, oh0_13, oh0_14, oh0_15, oh0_16, oh0_17, oh0_18, oh0_19, oh0_20, oh0_21, .ref h0_now, oh0_23, .ref h0_stay, .int v_stayMany, oh0_26, oh0_27, oh0_28, oh0_29, oh0_30, oh0_31, .int v_tries, oh0_33, oh0_34, .int v_lines, oh0_36, oh0_37])), (h0_parts, .inl (cy 2, 2, .inl v_parts)), (h0_rates, .inl (cy 2, 14, .inl v_rates)), (h0_mouths, .inl (cy 2, 2, .inl v_mouths)), (h0_persons, .inl (cy 2, 2, .inl v_persons)), (h0_interest, .inl (cy 2, 2, .inl v_interest)), (h0_winters, .inl (cy 2, 2, .inl v_winters)), (h0_now, .inl (cy 2, 60, .inl v_now)), (h0_stay, .inl (cy 2, 40, .inl v_stay))]) (isC := [0, 2, 8]) (isR := [1, 3, 4, 5, 6, 7]) (pm := [6, 0, 7, 1, 2, 3, 4, 5, 8]) hx hb hml hown hts (c9_stayTime l D cy N h0 h0_rates h0_stay oh0_0 oh0_1 (.int v_typed) (.ref h0_parts) oh0_5 oh0_6 (.ref h0_mouths) (.ref h0_persons) oh0_9 oh0_10 (.ref h0_interest) (.ref h0_winters) oh0_13 oh0_14 oh0_15 oh0_16 oh0_17 oh0_18 oh0_19 oh0_20 oh0_21 (.ref h0_now) oh0_23 oh0_26 oh0_27 oh0_28 oh0_29 oh0_30 oh0_31 (.int v_tries) oh0_33 oh0_34 (.int v_lines) oh0_36 oh0_37 v_stayMany v_rates v_stay r122 hc122) (cwV 0 hts gX9_told_X9_stayTime rfl rfl rfl (by decide +kernel) ⟨Nat.le_of_ble_eq_true rfl, Nat.le_of_ble_eq_true rfl⟩) hK hP hD hS hA rfl rfl rfl rfl rfl (by decide) rfl rfl rfl hl.1 (Nat.le_of_ble_eq_true rfl) dX9_told_122 ⟨Nat.zero_le _, Nat.zero_le _⟩ rfl rfl (fun H locs hP hD hS => ?_)
                      obtain rfl := si1 hM
                      exact hret _ _ _ _ _ dX9_told_125 rfl rfl hP hD hS
                    · have hM := g_neg c1_9 hM
                      rcases Classical.em (p1 = (10 : Int32)) with c1_10 | c1_10
                      · have hM := g_pos c1_10 hM
                        refine lv_tableIn (off := 125) (tgt := 126) hx hb dX9_told_1 (by rw [c1_10]; decide) (by rw [c1_10]; decide) (by rw [c1_10]; decide) (by decide) ?_
                        refine lv_aload_n hx hb dX9_told_126 rfl (lv_at hl 0 rfl) ?_
                        refine va_get (D := D) (ci := 9) (v := .int v_tries) (C := RX9) (T := TX9) (N := 38) hx hb hts iX9 hown hK hP 0 rfl rfl 32 (by decide) k162 (fun _ h9 => h9) rfl dX9_told_127 ?_
                        obtain rfl := si1 hM
                        exact hret _ _ _ _ _ dX9_told_130 rfl rfl hP hD hS
                      · have hM := g_neg c1_10 hM
                        rcases Classical.em (p1 = (11 : Int32)) with c1_11 | c1_11
                        · have hM := g_pos c1_11 hM
                          refine lv_tableIn (off := 130) (tgt := 131) hx hb dX9_told_1 (by rw [c1_11]; decide) (by rw [c1_11]; decide) (by rw [c1_11]; decide) (by decide) ?_
                          refine lv_aload_n hx hb dX9_told_131 rfl (lv_at hl 0 rfl) ?_
                          refine va_get (D := D) (ci := 9) (v := .int v_lines) (C := RX9) (T := TX9) (N := 38) hx hb hts iX9 hown hK hP 0 rfl rfl 35 (by decide) k165 (fun _ h9 => h9) rfl dX9_told_132 ?_
                          obtain rfl := si1 hM
                          exact hret _ _ _ _ _ dX9_told_135 rfl rfl hP hD hS
                        · have hM := g_neg c1_11 hM
                          have n1_0 : p1.toInt ≠ 0 := fun q => c1_0 (Int32.toInt_inj.mp (q.trans (by decide)))
                          have n1_1 : p1.toInt ≠ 1 := fun q => c1_1 (Int32.toInt_inj.mp (q.trans (by decide)))
                          have n1_2 : p1.toInt ≠ 2 := fun q => c1_2 (Int32.toInt_inj.mp (q.trans (by decide)))
                          have n1_3 : p1.toInt ≠ 3 := fun q => c1_3 (Int32.toInt_inj.mp (q.trans (by decide)))
                          have n1_4 : p1.toInt ≠ 4 := fun q => c1_4 (Int32.toInt_inj.mp (q.trans (by decide)))
                          have n1_5 : p1.toInt ≠ 5 := fun q => c1_5 (Int32.toInt_inj.mp (q.trans (by decide)))
                          have n1_6 : p1.toInt ≠ 6 := fun q => c1_6 (Int32.toInt_inj.mp (q.trans (by decide)))
                          have n1_7 : p1.toInt ≠ 7 := fun q => c1_7 (Int32.toInt_inj.mp (q.trans (by decide)))
                          have n1_8 : p1.toInt ≠ 8 := fun q => c1_8 (Int32.toInt_inj.mp (q.trans (by decide)))
                          have n1_9 : p1.toInt ≠ 9 := fun q => c1_9 (Int32.toInt_inj.mp (q.trans (by decide)))
                          have n1_10 : p1.toInt ≠ 10 := fun q => c1_10 (Int32.toInt_inj.mp (q.trans (by decide)))
                          have n1_11 : p1.toInt ≠ 11 := fun q => c1_11 (Int32.toInt_inj.mp (q.trans (by decide)))
                          refine lv_tableOut (tgt := 136) hx hb dX9_told_1 (by omega) (by decide) ?_
                          refine lv_ldc (v := -1000000002) hx hb hown k99 dX9_told_136 ?_
                          obtain rfl := si1 hM
                          exact hret _ _ _ _ _ dX9_told_138 rfl rfl hP hD hS
