-- ===== X9_fault fault ()I =====
abbrev r9_fault : Room := { frames := 0, cells := 0, slots := 0, locals := 0 }
def f9_fault (N : Nat) (v_faultAt : Int32) : Option Int32 :=
  some v_faultAt
set_option maxHeartbeats 4000000 in
set_option maxRecDepth 100000 in
theorem c9_fault (l : Launch) (D : va_G) (cy : Nat → ClassId) (N : Nat) (h0 : Nat) (oh0_0 oh0_1 oh0_2 oh0_3 oh0_4 oh0_5 oh0_6 oh0_7 oh0_8 oh0_9 oh0_10 oh0_11 oh0_12 oh0_13 oh0_14 oh0_15 oh0_16 oh0_17 oh0_18 oh0_19 oh0_21 oh0_22 oh0_23 oh0_24 oh0_25 oh0_26 oh0_27 oh0_28 oh0_29 oh0_30 oh0_31 oh0_32 oh0_33 oh0_34 oh0_35 oh0_36 oh0_37 : Value) (v_faultAt : Int32) (r : Int32) (hM : f9_fault N v_faultAt = some r) (sz : Nat) : CTi l yX9_fault wsX9_fault r9_fault [.ref h0] D cy sz [(h0, .inr (9, [oh0_0, oh0_1, oh0_2, oh0_3, oh0_4, oh0_5, oh0_6, oh0_7, oh0_8, oh0_9, oh0_10, oh0_11, oh0_12, oh0_13, oh0_14, oh0_15, oh0_16, oh0_17, oh0_18, oh0_19, .int v_faultAt, oh0_21, oh0_22, oh0_23, oh0_24, oh0_25, oh0_26, oh0_27, oh0_28, oh0_29, oh0_30, oh0_31, oh0_32, oh0_33, oh0_34, oh0_35, oh0_36, oh0_37]))] [(h0, .inr (9, [oh0_0, oh0_1, oh0_2, oh0_3, oh0_4, oh0_5, oh0_6, oh0_7, oh0_8, oh0_9, oh0_10, oh0_11, oh0_12, oh0_13, oh0_14, oh0_15, oh0_16, oh0_17, oh0_18, oh0_19, .int v_faultAt, oh0_21, oh0_22, oh0_23, oh0_24, oh0_25, oh0_26, oh0_27, oh0_28, oh0_29, oh0_30, oh0_31, oh0_32, oh0_33, oh0_34, oh0_35, oh0_36, oh0_37]))] r := by
  unfold f9_fault at hM
  refine ct_oi (cc := cX9_fault) (maxL := 1) (ty := .int) (by decide +kernel) rfl (Nat.le_of_ble_eq_true rfl) (lv0 := [(0, .ref h0)]) rfl ?_
  intro p e s m args below meth c A Q ls hx hb hts hown hml hK hP hD hS hA hret hl
  have hown : s.vm.findClass RX9 = some m.cls := hown
  have k91 := hts (.fieldLink RX9 91 "CaveYearsModel" "faultAt" "I") (List.mem_of_getElem? (i := 1) rfl)
  have iX9 := (fun w h => (List.mem_cons_of_mem _ (List.mem_append_right _ h)) : ∀ w ∈ wsX90, w ∈ wsX9_fault)
  refine lv_aload_n hx hb dX9_fault_0 rfl (lv_at hl 0 rfl) ?_
  refine va_get (D := D) (ci := 9) (v := .int v_faultAt) (C := RX9) (T := TX9) (N := 38) hx hb hts iX9 hown hK hP 0 rfl rfl 20 (by decide) k91 (fun _ h9 => h9) rfl dX9_fault_1 ?_
  obtain rfl := si1 hM
  exact hret _ _ _ _ _ dX9_fault_4 rfl rfl hP hD hS

-- ===== X9_isPart isPart (I)Z =====
abbrev r9_isPart : Room := { frames := 1, cells := 0, slots := 0, locals := 22 }
def f9_isPart (N : Nat) (p1 : Int32) (v_parts : Nat → Int32) : Option Int32 :=
  gi (0 : Int32) 2 (ob1 (f9_in N p1 (0 : Int32) ((v_parts (0 : Int32).toNatClampNeg) - (1 : Int32))) fun r10 => gb r10 (some r10))
set_option maxHeartbeats 4000000 in
set_option maxRecDepth 100000 in
theorem c9_isPart (l : Launch) (D : va_G) (cy : Nat → ClassId) (N : Nat) (h0 h0_parts : Nat) (oh0_0 oh0_1 oh0_2 oh0_4 oh0_5 oh0_6 oh0_7 oh0_8 oh0_9 oh0_10 oh0_11 oh0_12 oh0_13 oh0_14 oh0_15 oh0_16 oh0_17 oh0_18 oh0_19 oh0_20 oh0_21 oh0_22 oh0_23 oh0_24 oh0_25 oh0_26 oh0_27 oh0_28 oh0_29 oh0_30 oh0_31 oh0_32 oh0_33 oh0_34 oh0_35 oh0_36 oh0_37 : Value) (p1 : Int32) (v_parts : Nat → Int32) (r : Int32) (hM : f9_isPart N p1 v_parts = some r) (sz : Nat) : CTi l yX9_isPart wsX9_isPart r9_isPart [.ref h0, .int p1] D cy sz [(h0, .inr (9, [oh0_0, oh0_1, oh0_2, .ref h0_parts, oh0_4, oh0_5, oh0_6, oh0_7, oh0_8, oh0_9, oh0_10, oh0_11, oh0_12, oh0_13, oh0_14, oh0_15, oh0_16, oh0_17, oh0_18, oh0_19, oh0_20, oh0_21, oh0_22, oh0_23, oh0_24, oh0_25, oh0_26, oh0_27, oh0_28, oh0_29, oh0_30, oh0_31, oh0_32, oh0_33, oh0_34, oh0_35, oh0_36, oh0_37])), (h0_parts, .inl (cy 2, 2, .inl v_parts))] [(h0, .inr (9, [oh0_0, oh0_1, oh0_2, .ref h0_parts, oh0_4, oh0_5, oh0_6, oh0_7, oh0_8, oh0_9, oh0_10, oh0_11, oh0_12, oh0_13, oh0_14, oh0_15, oh0_16, oh0_17, oh0_18, oh0_19, oh0_20, oh0_21, oh0_22, oh0_23, oh0_24, oh0_25, oh0_26, oh0_27, oh0_28, oh0_29, oh0_30, oh0_31, oh0_32, oh0_33, oh0_34, oh0_35, oh0_36, oh0_37])), (h0_parts, .inl (cy 2, 2, .inl v_parts))] r := by
  unfold f9_isPart at hM
  refine ct_oi (cc := cX9_isPart) (maxL := 2) (ty := .boolean) (by decide +kernel) rfl (Nat.le_of_ble_eq_true rfl) (lv0 := [(0, .ref h0), (1, .int p1)]) rfl ?_
  intro p e s m args below meth c A Q ls hx hb hts hown hml hK hP hD hS hA hret hl
  have hown : s.vm.findClass RX9 = some m.cls := hown
  have k13 := hts (.fieldLink RX9 13 "CaveYearsModel" "parts" "[I") (List.mem_of_getElem? (i := 1) rfl)
  have iX9 := (fun w h => (List.mem_cons_of_mem _ (List.mem_append_right _ h)) : ∀ w ∈ wsX90, w ∈ wsX9_isPart)
  refine lv_iload_n hx hb dX9_isPart_0 rfl (lv_at hl 1 rfl) ?_
  refine lv_iconst (v := 0) hx hb dX9_isPart_1 (by decide) ?_
  refine lv_aload_n hx hb dX9_isPart_2 rfl (lv_at hl 0 rfl) ?_
  refine va_get (D := D) (ci := 9) (v := .ref h0_parts) (C := RX9) (T := TX9) (N := 38) hx hb hts iX9 hown hK hP 0 rfl rfl 3 (by decide) k13 (fun _ h9 => h9) rfl dX9_isPart_3 ?_
  refine lv_iconst (v := 0) hx hb dX9_isPart_6 (by decide) ?_
  obtain ⟨h7, hM⟩ := gi_some hM
  refine va_iald hx hb hK hP 1 2 rfl rfl h7 dX9_isPart_7 ?_
  refine lv_iconst (v := 1) hx hb dX9_isPart_8 (by decide) ?_
  refine lv_isub hx hb dX9_isPart_9 ?_
  obtain ⟨r10, hc10, hM⟩ := ob1_some hM
  refine cl_si (As := [.int p1, .int (0 : Int32), .int ((v_parts (0 : Int32).toNatClampNeg) - (1 : Int32))]) (rest := []) (wr := [(h0, .inr (9, [oh0_0, oh0_1, oh0_2, .ref h0_parts, oh0_4, oh0_5, oh0_6, oh0_7, oh0_8, oh0_9, oh0_10, oh0_11, oh0_12, oh0_13, oh0_14, oh0_15, oh0_16, oh0_17, oh0_18, oh0_19, oh0_20, oh0_21, oh0_22, oh0_23, oh0_24, oh0_25, oh0_26, oh0_27, oh0_28, oh0_29, oh0_30, oh0_31, oh0_32, oh0_33, oh0_34, oh0_35, oh0_36, oh0_37])), (h0_parts, .inl (cy 2, 2, .inl v_parts))]) (ws2 := [(h0, .inr (9, [oh0_0, oh0_1, oh0_2, .ref h0_parts, oh0_4, oh0_5, oh0_6, oh0_7, oh0_8, oh0_9, oh0_10, oh0_11, oh0_12, oh0_13, oh0_14, oh0_15, oh0_16, oh0_17, oh0_18, oh0_19, oh0_20, oh0_21, oh0_22, oh0_23, oh0_24, oh0_25, oh0_26, oh0_27, oh0_28, oh0_29, oh0_30, oh0_31, oh0_32, oh0_33, oh0_34, oh0_35, oh0_36, oh0_37])), (h0_parts, .inl (cy 2, 2, .inl v_parts))]) (isC := []) (isR := [0, 1]) (pm := [0, 1]) hx hb hml hown hts (c9_in l D cy N p1 (0 : Int32) ((v_parts (0 : Int32).toNatClampNeg) - (1 : Int32)) r10 hc10) (va_cwS 3 hts gX9_isPart_X9_in rfl rfl rfl (by decide +kernel) ⟨Nat.le_of_ble_eq_true rfl, Nat.le_of_ble_eq_true rfl⟩) hK hP hD hS hA rfl rfl rfl (by decide) rfl rfl rfl hl.1 (Nat.le_of_ble_eq_true rfl) dX9_isPart_10 ⟨Nat.zero_le _, Nat.zero_le _⟩ rfl rfl (fun H locs hP hD hS => ?_)
  obtain ⟨hz13, hM⟩ := gb_some hM
  obtain rfl := si1 hM
  exact hret _ _ _ _ _ dX9_isPart_13 rfl hz13 hP hD hS

-- ===== X9_isMouth isMouth (I)Z =====
abbrev r9_isMouth : Room := { frames := 2, cells := 0, slots := 0, locals := 43 }
def f9_isMouth (N : Nat) (p1 : Int32) (v_parts : Nat → Int32) (v_mouths : Nat → Int32) : Option Int32 :=
  ob1 (f9_isPart N p1 v_parts) fun r2 => if r2 = (0 : Int32) then (some (0 : Int32)) else (gi (0 : Int32) 2 (if (((v_mouths (0 : Int32).toNatClampNeg) >>> (p1 &&& 31)) &&& (1 : Int32)) = (1 : Int32) then (some (1 : Int32)) else (some (0 : Int32))))
set_option maxHeartbeats 4000000 in
set_option maxRecDepth 100000 in
theorem c9_isMouth (l : Launch) (D : va_G) (cy : Nat → ClassId) (N : Nat) (h0 h0_parts h0_mouths : Nat) (oh0_0 oh0_1 oh0_2 oh0_4 oh0_5 oh0_6 oh0_8 oh0_9 oh0_10 oh0_11 oh0_12 oh0_13 oh0_14 oh0_15 oh0_16 oh0_17 oh0_18 oh0_19 oh0_20 oh0_21 oh0_22 oh0_23 oh0_24 oh0_25 oh0_26 oh0_27 oh0_28 oh0_29 oh0_30 oh0_31 oh0_32 oh0_33 oh0_34 oh0_35 oh0_36 oh0_37 : Value) (p1 : Int32) (v_parts : Nat → Int32) (v_mouths : Nat → Int32) (r : Int32) (hM : f9_isMouth N p1 v_parts v_mouths = some r) (sz : Nat) : CTi l yX9_isMouth wsX9_isMouth r9_isMouth [.ref h0, .int p1] D cy sz [(h0, .inr (9, [oh0_0, oh0_1, oh0_2, .ref h0_parts, oh0_4, oh0_5, oh0_6, .ref h0_mouths, oh0_8, oh0_9, oh0_10, oh0_11, oh0_12, oh0_13, oh0_14, oh0_15, oh0_16, oh0_17, oh0_18, oh0_19, oh0_20, oh0_21, oh0_22, oh0_23, oh0_24, oh0_25, oh0_26, oh0_27, oh0_28, oh0_29, oh0_30, oh0_31, oh0_32, oh0_33, oh0_34, oh0_35, oh0_36, oh0_37])), (h0_parts, .inl (cy 2, 2, .inl v_parts)), (h0_mouths, .inl (cy 2, 2, .inl v_mouths))] [(h0, .inr (9, [oh0_0, oh0_1, oh0_2, .ref h0_parts, oh0_4, oh0_5, oh0_6, .ref h0_mouths, oh0_8, oh0_9, oh0_10, oh0_11, oh0_12, oh0_13, oh0_14, oh0_15, oh0_16, oh0_17, oh0_18, oh0_19, oh0_20, oh0_21, oh0_22, oh0_23, oh0_24, oh0_25, oh0_26, oh0_27, oh0_28, oh0_29, oh0_30, oh0_31, oh0_32, oh0_33, oh0_34, oh0_35, oh0_36, oh0_37])), (h0_parts, .inl (cy 2, 2, .inl v_parts)), (h0_mouths, .inl (cy 2, 2, .inl v_mouths))] r := by
  unfold f9_isMouth at hM
  refine ct_oi (cc := cX9_isMouth) (maxL := 2) (ty := .boolean) (by decide +kernel) rfl (Nat.le_of_ble_eq_true rfl) (lv0 := [(0, .ref h0), (1, .int p1)]) rfl ?_
  intro p e s m args below meth c A Q ls hx hb hts hown hml hK hP hD hS hA hret hl
  have hown : s.vm.findClass RX9 = some m.cls := hown
  have k26 := hts (.fieldLink RX9 26 "CaveYearsModel" "mouths" "[I") (List.mem_of_getElem? (i := 1) rfl)
  have iX9 := (fun w h => (List.mem_cons_of_mem _ (List.mem_append_right _ h)) : ∀ w ∈ wsX90, w ∈ wsX9_isMouth)
  refine lv_aload_n hx hb dX9_isMouth_0 rfl (lv_at hl 0 rfl) ?_
  refine lv_iload_n hx hb dX9_isMouth_1 rfl (lv_at hl 1 rfl) ?_
  obtain ⟨r2, hc2, hM⟩ := ob1_some hM
  refine cl_vi (As := [.int p1]) (rest := []) (ci := 9) (q0 := 0) (wr := [(h0_mouths, .inl (cy 2, 2, .inl v_mouths))]) (ws2 := [(h0, .inr (9, [oh0_0, oh0_1, oh0_2, .ref h0_parts, oh0_4, oh0_5, oh0_6, .ref h0_mouths, oh0_8, oh0_9, oh0_10, oh0_11, oh0_12, oh0_13, oh0_14, oh0_15, oh0_16, oh0_17, oh0_18, oh0_19, oh0_20, oh0_21, oh0_22, oh0_23, oh0_24, oh0_25, oh0_26, oh0_27, oh0_28, oh0_29, oh0_30, oh0_31, oh0_32, oh0_33, oh0_34, oh0_35, oh0_36, oh0_37])), (h0_parts, .inl (cy 2, 2, .inl v_parts)), (h0_mouths, .inl (cy 2, 2, .inl v_mouths))]) (isC := [0, 1]) (isR := [2]) (pm := [1, 2, 0]) hx hb hml hown hts (c9_isPart l D cy N h0 h0_parts oh0_0 oh0_1 oh0_2 oh0_4 oh0_5 oh0_6 (.ref h0_mouths) oh0_8 oh0_9 oh0_10 oh0_11 oh0_12 oh0_13 oh0_14 oh0_15 oh0_16 oh0_17 oh0_18 oh0_19 oh0_20 oh0_21 oh0_22 oh0_23 oh0_24 oh0_25 oh0_26 oh0_27 oh0_28 oh0_29 oh0_30 oh0_31 oh0_32 oh0_33 oh0_34 oh0_35 oh0_36 oh0_37 p1 v_parts r2 hc2) (cwV 1 hts gX9_isMouth_X9_isPart rfl rfl rfl (by decide +kernel) ⟨Nat.le_of_ble_eq_true rfl, Nat.le_of_ble_eq_true rfl⟩) hK hP hD hS hA rfl rfl rfl rfl rfl (by decide) rfl rfl rfl hl.1 (Nat.le_of_ble_eq_true rfl) dX9_isMouth_2 ⟨Nat.zero_le _, Nat.zero_le _⟩ rfl rfl (fun H locs hP hD hS => ?_)
  refine lv_if_eq (tgt := 26) hx hb dX9_isMouth_5 (by decide) (fun c5 => ?_) (fun c5 => ?_)
  · have hM := g_pos c5 hM
    refine lv_iconst (v := 0) hx hb dX9_isMouth_26 (by decide) ?_
    obtain rfl := si1 hM
    exact hret _ _ _ _ _ dX9_isMouth_27 rfl rfl hP hD hS
  · have hM := g_neg c5 hM
    refine lv_aload_n hx hb dX9_isMouth_8 rfl (lv_at hl 0 rfl) ?_
    refine va_get (D := D) (ci := 9) (v := .ref h0_mouths) (C := RX9) (T := TX9) (N := 38) hx hb hts iX9 hown hK hP 0 rfl rfl 7 (by decide) k26 (fun _ h9 => h9) rfl dX9_isMouth_9 ?_
    refine lv_iconst (v := 0) hx hb dX9_isMouth_12 (by decide) ?_
    obtain ⟨h13, hM⟩ := gi_some hM
    refine va_iald hx hb hK hP 2 2 rfl rfl h13 dX9_isMouth_13 ?_
    refine lv_iload_n hx hb dX9_isMouth_14 rfl (lv_at hl 1 rfl) ?_
    refine lv_ishr hx hb dX9_isMouth_15 ?_
    refine lv_iconst (v := 1) hx hb dX9_isMouth_16 (by decide) ?_
    refine lv_iand hx hb dX9_isMouth_17 ?_
    refine lv_iconst (v := 1) hx hb dX9_isMouth_18 (by decide) ?_
    refine lv_icmp_ne (tgt := 26) hx hb dX9_isMouth_19 (by decide) (fun c19 => ?_) (fun c19 => ?_)
    · have hM := g_neg c19 hM
      refine lv_iconst (v := 0) hx hb dX9_isMouth_26 (by decide) ?_
      obtain rfl := si1 hM
      exact hret _ _ _ _ _ dX9_isMouth_27 rfl rfl hP hD hS
    · have hM := g_pos c19 hM
      refine lv_iconst (v := 1) hx hb dX9_isMouth_22 (by decide) ?_
      refine lv_goto (tgt := 27) hx hb dX9_isMouth_23 (by decide) ?_
      obtain rfl := si1 hM
      exact hret _ _ _ _ _ dX9_isMouth_27 rfl rfl hP hD hS

-- ===== X9_isPerson isPerson (I)Z =====
abbrev r9_isPerson : Room := { frames := 1, cells := 0, slots := 0, locals := 22 }
def f9_isPerson (N : Nat) (p1 : Int32) (v_persons : Nat → Int32) : Option Int32 :=
  gi (0 : Int32) 2 (ob1 (f9_in N p1 (0 : Int32) ((v_persons (0 : Int32).toNatClampNeg) - (1 : Int32))) fun r10 => gb r10 (some r10))
set_option maxHeartbeats 4000000 in
set_option maxRecDepth 100000 in
theorem c9_isPerson (l : Launch) (D : va_G) (cy : Nat → ClassId) (N : Nat) (h0 h0_persons : Nat) (oh0_0 oh0_1 oh0_2 oh0_3 oh0_4 oh0_5 oh0_6 oh0_7 oh0_9 oh0_10 oh0_11 oh0_12 oh0_13 oh0_14 oh0_15 oh0_16 oh0_17 oh0_18 oh0_19 oh0_20 oh0_21 oh0_22 oh0_23 oh0_24 oh0_25 oh0_26 oh0_27 oh0_28 oh0_29 oh0_30 oh0_31 oh0_32 oh0_33 oh0_34 oh0_35 oh0_36 oh0_37 : Value) (p1 : Int32) (v_persons : Nat → Int32) (r : Int32) (hM : f9_isPerson N p1 v_persons = some r) (sz : Nat) : CTi l yX9_isPerson wsX9_isPerson r9_isPerson [.ref h0, .int p1] D cy sz [(h0, .inr (9, [oh0_0, oh0_1, oh0_2, oh0_3, oh0_4, oh0_5, oh0_6, oh0_7, .ref h0_persons, oh0_9, oh0_10, oh0_11, oh0_12, oh0_13, oh0_14, oh0_15, oh0_16, oh0_17, oh0_18, oh0_19, oh0_20, oh0_21, oh0_22, oh0_23, oh0_24, oh0_25, oh0_26, oh0_27, oh0_28, oh0_29, oh0_30, oh0_31, oh0_32, oh0_33, oh0_34, oh0_35, oh0_36, oh0_37])), (h0_persons, .inl (cy 2, 2, .inl v_persons))] [(h0, .inr (9, [oh0_0, oh0_1, oh0_2, oh0_3, oh0_4, oh0_5, oh0_6, oh0_7, .ref h0_persons, oh0_9, oh0_10, oh0_11, oh0_12, oh0_13, oh0_14, oh0_15, oh0_16, oh0_17, oh0_18, oh0_19, oh0_20, oh0_21, oh0_22, oh0_23, oh0_24, oh0_25, oh0_26, oh0_27, oh0_28, oh0_29, oh0_30, oh0_31, oh0_32, oh0_33, oh0_34, oh0_35, oh0_36, oh0_37])), (h0_persons, .inl (cy 2, 2, .inl v_persons))] r := by
  unfold f9_isPerson at hM
  refine ct_oi (cc := cX9_isPerson) (maxL := 2) (ty := .boolean) (by decide +kernel) rfl (Nat.le_of_ble_eq_true rfl) (lv0 := [(0, .ref h0), (1, .int p1)]) rfl ?_
  intro p e s m args below meth c A Q ls hx hb hts hown hml hK hP hD hS hA hret hl
  have hown : s.vm.findClass RX9 = some m.cls := hown
  have k29 := hts (.fieldLink RX9 29 "CaveYearsModel" "persons" "[I") (List.mem_of_getElem? (i := 1) rfl)
  have iX9 := (fun w h => (List.mem_cons_of_mem _ (List.mem_append_right _ h)) : ∀ w ∈ wsX90, w ∈ wsX9_isPerson)
  refine lv_iload_n hx hb dX9_isPerson_0 rfl (lv_at hl 1 rfl) ?_
  refine lv_iconst (v := 0) hx hb dX9_isPerson_1 (by decide) ?_
  refine lv_aload_n hx hb dX9_isPerson_2 rfl (lv_at hl 0 rfl) ?_
  refine va_get (D := D) (ci := 9) (v := .ref h0_persons) (C := RX9) (T := TX9) (N := 38) hx hb hts iX9 hown hK hP 0 rfl rfl 8 (by decide) k29 (fun _ h9 => h9) rfl dX9_isPerson_3 ?_
  refine lv_iconst (v := 0) hx hb dX9_isPerson_6 (by decide) ?_
  obtain ⟨h7, hM⟩ := gi_some hM
  refine va_iald hx hb hK hP 1 2 rfl rfl h7 dX9_isPerson_7 ?_
  refine lv_iconst (v := 1) hx hb dX9_isPerson_8 (by decide) ?_
  refine lv_isub hx hb dX9_isPerson_9 ?_
  obtain ⟨r10, hc10, hM⟩ := ob1_some hM
  refine cl_si (As := [.int p1, .int (0 : Int32), .int ((v_persons (0 : Int32).toNatClampNeg) - (1 : Int32))]) (rest := []) (wr := [(h0, .inr (9, [oh0_0, oh0_1, oh0_2, oh0_3, oh0_4, oh0_5, oh0_6, oh0_7, .ref h0_persons, oh0_9, oh0_10, oh0_11, oh0_12, oh0_13, oh0_14, oh0_15, oh0_16, oh0_17, oh0_18, oh0_19, oh0_20, oh0_21, oh0_22, oh0_23, oh0_24, oh0_25, oh0_26, oh0_27, oh0_28, oh0_29, oh0_30, oh0_31, oh0_32, oh0_33, oh0_34, oh0_35, oh0_36, oh0_37])), (h0_persons, .inl (cy 2, 2, .inl v_persons))]) (ws2 := [(h0, .inr (9, [oh0_0, oh0_1, oh0_2, oh0_3, oh0_4, oh0_5, oh0_6, oh0_7, .ref h0_persons, oh0_9, oh0_10, oh0_11, oh0_12, oh0_13, oh0_14, oh0_15, oh0_16, oh0_17, oh0_18, oh0_19, oh0_20, oh0_21, oh0_22, oh0_23, oh0_24, oh0_25, oh0_26, oh0_27, oh0_28, oh0_29, oh0_30, oh0_31, oh0_32, oh0_33, oh0_34, oh0_35, oh0_36, oh0_37])), (h0_persons, .inl (cy 2, 2, .inl v_persons))]) (isC := []) (isR := [0, 1]) (pm := [0, 1]) hx hb hml hown hts (c9_in l D cy N p1 (0 : Int32) ((v_persons (0 : Int32).toNatClampNeg) - (1 : Int32)) r10 hc10) (va_cwS 3 hts gX9_isPerson_X9_in rfl rfl rfl (by decide +kernel) ⟨Nat.le_of_ble_eq_true rfl, Nat.le_of_ble_eq_true rfl⟩) hK hP hD hS hA rfl rfl rfl (by decide) rfl rfl rfl hl.1 (Nat.le_of_ble_eq_true rfl) dX9_isPerson_10 ⟨Nat.zero_le _, Nat.zero_le _⟩ rfl rfl (fun H locs hP hD hS => ?_)
  obtain ⟨hz13, hM⟩ := gb_some hM
  obtain rfl := si1 hM
  exact hret _ _ _ _ _ dX9_isPerson_13 rfl hz13 hP hD hS

-- ===== X9_isDown isDown (I)Z =====
abbrev r9_isDown : Room := { frames := 0, cells := 0, slots := 0, locals := 0 }
def f9_isDown (N : Nat) (p1 : Int32) (v_now : Nat → Int32) : Option Int32 :=
  gi ((13 : Int32) + p1) 60 (gi (0 : Int32) 60 (if (v_now ((13 : Int32) + p1).toNatClampNeg) ≤ (v_now (0 : Int32).toNatClampNeg) then (some (0 : Int32)) else (some (1 : Int32))))
set_option maxHeartbeats 4000000 in
set_option maxRecDepth 100000 in
theorem c9_isDown (l : Launch) (D : va_G) (cy : Nat → ClassId) (N : Nat) (h0 h0_now : Nat) (oh0_0 oh0_1 oh0_2 oh0_3 oh0_4 oh0_5 oh0_6 oh0_7 oh0_8 oh0_9 oh0_10 oh0_11 oh0_12 oh0_13 oh0_14 oh0_15 oh0_16 oh0_17 oh0_18 oh0_19 oh0_20 oh0_21 oh0_23 oh0_24 oh0_25 oh0_26 oh0_27 oh0_28 oh0_29 oh0_30 oh0_31 oh0_32 oh0_33 oh0_34 oh0_35 oh0_36 oh0_37 : Value) (p1 : Int32) (v_now : Nat → Int32) (r : Int32) (hM : f9_isDown N p1 v_now = some r) (sz : Nat) : CTi l yX9_isDown wsX9_isDown r9_isDown [.ref h0, .int p1] D cy sz [(h0, .inr (9, [oh0_0, oh0_1, oh0_2, oh0_3, oh0_4, oh0_5, oh0_6, oh0_7, oh0_8, oh0_9, oh0_10, oh0_11, oh0_12, oh0_13, oh0_14, oh0_15, oh0_16, oh0_17, oh0_18, oh0_19, oh0_20, oh0_21, .ref h0_now, oh0_23, oh0_24, oh0_25, oh0_26, oh0_27, oh0_28, oh0_29, oh0_30, oh0_31, oh0_32, oh0_33, oh0_34, oh0_35, oh0_36, oh0_37])), (h0_now, .inl (cy 2, 60, .inl v_now))] [(h0, .inr (9, [oh0_0, oh0_1, oh0_2, oh0_3, oh0_4, oh0_5, oh0_6, oh0_7, oh0_8, oh0_9, oh0_10, oh0_11, oh0_12, oh0_13, oh0_14, oh0_15, oh0_16, oh0_17, oh0_18, oh0_19, oh0_20, oh0_21, .ref h0_now, oh0_23, oh0_24, oh0_25, oh0_26, oh0_27, oh0_28, oh0_29, oh0_30, oh0_31, oh0_32, oh0_33, oh0_34, oh0_35, oh0_36, oh0_37])), (h0_now, .inl (cy 2, 60, .inl v_now))] r := by
  unfold f9_isDown at hM
  refine ct_oi (cc := cX9_isDown) (maxL := 2) (ty := .boolean) (by decide +kernel) rfl (Nat.le_of_ble_eq_true rfl) (lv0 := [(0, .ref h0), (1, .int p1)]) rfl ?_
  intro p e s m args below meth c A Q ls hx hb hts hown hml hK hP hD hS hA hret hl
  have hown : s.vm.findClass RX9 = some m.cls := hown
  have k50 := hts (.fieldLink RX9 50 "CaveYearsModel" "now" "[I") (List.mem_of_getElem? (i := 1) rfl)
  have iX9 := (fun w h => (List.mem_cons_of_mem _ (List.mem_append_right _ h)) : ∀ w ∈ wsX90, w ∈ wsX9_isDown)
  refine lv_aload_n hx hb dX9_isDown_0 rfl (lv_at hl 0 rfl) ?_
  refine va_get (D := D) (ci := 9) (v := .ref h0_now) (C := RX9) (T := TX9) (N := 38) hx hb hts iX9 hown hK hP 0 rfl rfl 22 (by decide) k50 (fun _ h9 => h9) rfl dX9_isDown_1 ?_
  refine lv_bipush (v := 13) hx hb dX9_isDown_4 (by decide) ?_
  refine lv_iload_n hx hb dX9_isDown_6 rfl (lv_at hl 1 rfl) ?_
  refine lv_iadd hx hb dX9_isDown_7 ?_
  obtain ⟨h8, hM⟩ := gi_some hM
  refine va_iald hx hb hK hP 1 2 rfl rfl h8 dX9_isDown_8 ?_
  refine lv_aload_n hx hb dX9_isDown_9 rfl (lv_at hl 0 rfl) ?_
  refine va_get (D := D) (ci := 9) (v := .ref h0_now) (C := RX9) (T := TX9) (N := 38) hx hb hts iX9 hown hK hP 0 rfl rfl 22 (by decide) k50 (fun _ h9 => h9) rfl dX9_isDown_10 ?_
  refine lv_iconst (v := 0) hx hb dX9_isDown_13 (by decide) ?_
  obtain ⟨h14, hM⟩ := gi_some hM
  refine va_iald hx hb hK hP 1 2 rfl rfl h14 dX9_isDown_14 ?_
  refine lv_icmp_le (tgt := 22) hx hb dX9_isDown_15 (by decide) (fun c15 => ?_) (fun c15 => ?_)
  · have hM := g_pos c15 hM
    refine lv_iconst (v := 0) hx hb dX9_isDown_22 (by decide) ?_
    obtain rfl := si1 hM
    exact hret _ _ _ _ _ dX9_isDown_23 rfl rfl hP hD hS
  · have hM := g_neg c15 hM
    refine lv_iconst (v := 1) hx hb dX9_isDown_18 (by decide) ?_
    refine lv_goto (tgt := 23) hx hb dX9_isDown_19 (by decide) ?_
    obtain rfl := si1 hM
    exact hret _ _ _ _ _ dX9_isDown_23 rfl rfl hP hD hS

-- ===== X9_downSet downSet ()I =====
abbrev r9_downSet : Room := { frames := 1, cells := 0, slots := 0, locals := 21 }
def f9_downSet_L4 (N : Nat) (v_persons : Nat → Int32) (v_now : Nat → Int32) : Nat → Int32 → Int32 → Option Int32
  | 0, _, _ => none
  | n + 1, x1_4, x2_4 => gi (0 : Int32) 2 (if (v_persons (0 : Int32).toNatClampNeg) ≤ x2_4 then (some x1_4) else (ob1 (f9_isDown N x2_4 v_now) fun r17 => if r17 = (0 : Int32) then ((f9_downSet_L4 N v_persons v_now n) (x1_4 ||| (0 : Int32)) (x2_4 + (1 : Int32))) else ((f9_downSet_L4 N v_persons v_now n) (x1_4 ||| ((1 : Int32) <<< (x2_4 &&& 31))) (x2_4 + (1 : Int32)))))
def f9_downSet (N : Nat) (v_persons : Nat → Int32) (v_now : Nat → Int32) : Option Int32 :=
  ob1 (f9_downSet_L4 N v_persons v_now N (0 : Int32) (0 : Int32)) fun e1_4 => some e1_4
set_option maxHeartbeats 4000000 in
set_option maxRecDepth 100000 in
theorem c9_downSet (l : Launch) (D : va_G) (cy : Nat → ClassId) (N : Nat) (h0 h0_persons h0_now : Nat) (oh0_0 oh0_1 oh0_2 oh0_3 oh0_4 oh0_5 oh0_6 oh0_7 oh0_9 oh0_10 oh0_11 oh0_12 oh0_13 oh0_14 oh0_15 oh0_16 oh0_17 oh0_18 oh0_19 oh0_20 oh0_21 oh0_23 oh0_24 oh0_25 oh0_26 oh0_27 oh0_28 oh0_29 oh0_30 oh0_31 oh0_32 oh0_33 oh0_34 oh0_35 oh0_36 oh0_37 : Value) (v_persons : Nat → Int32) (v_now : Nat → Int32) (r : Int32) (hM : f9_downSet N v_persons v_now = some r) (sz : Nat) : CTi l yX9_downSet wsX9_downSet r9_downSet [.ref h0] D cy sz [(h0, .inr (9, [oh0_0, oh0_1, oh0_2, oh0_3, oh0_4, oh0_5, oh0_6, oh0_7, .ref h0_persons, oh0_9, oh0_10, oh0_11, oh0_12, oh0_13, oh0_14, oh0_15, oh0_16, oh0_17, oh0_18, oh0_19, oh0_20, oh0_21, .ref h0_now, oh0_23, oh0_24, oh0_25, oh0_26, oh0_27, oh0_28, oh0_29, oh0_30, oh0_31, oh0_32, oh0_33, oh0_34, oh0_35, oh0_36, oh0_37])), (h0_persons, .inl (cy 2, 2, .inl v_persons)), (h0_now, .inl (cy 2, 60, .inl v_now))] [(h0, .inr (9, [oh0_0, oh0_1, oh0_2, oh0_3, oh0_4, oh0_5, oh0_6, oh0_7, .ref h0_persons, oh0_9, oh0_10, oh0_11, oh0_12, oh0_13, oh0_14, oh0_15, oh0_16, oh0_17, oh0_18, oh0_19, oh0_20, oh0_21, .ref h0_now, oh0_23, oh0_24, oh0_25, oh0_26, oh0_27, oh0_28, oh0_29, oh0_30, oh0_31, oh0_32, oh0_33, oh0_34, oh0_35, oh0_36, oh0_37])), (h0_persons, .inl (cy 2, 2, .inl v_persons)), (h0_now, .inl (cy 2, 60, .inl v_now))] r := by
  unfold f9_downSet at hM
  refine ct_oi (cc := cX9_downSet) (maxL := 3) (ty := .int) (by decide +kernel) rfl (Nat.le_of_ble_eq_true rfl) (lv0 := [(0, .ref h0)]) rfl ?_
  intro p e s m args below meth c A Q ls hx hb hts hown hml hK hP hD hS hA hret hl
  have hown : s.vm.findClass RX9 = some m.cls := hown
  have k29 := hts (.fieldLink RX9 29 "CaveYearsModel" "persons" "[I") (List.mem_of_getElem? (i := 1) rfl)
  have iX9 := (fun w h => (List.mem_cons_of_mem _ (List.mem_append_right _ h)) : ∀ w ∈ wsX90, w ∈ wsX9_downSet)
  refine lv_iconst (v := 0) hx hb dX9_downSet_0 (by decide) ?_
  refine lv_istore_n (lv' := [(1, .int (0 : Int32)), (0, .ref h0)]) hx hb dX9_downSet_1 rfl hl (by decide) rfl (fun ls hl => ?_)
  refine lv_iconst (v := 0) hx hb dX9_downSet_2 (by decide) ?_
  refine lv_istore_n (lv' := [(2, .int (0 : Int32)), (1, .int (0 : Int32)), (0, .ref h0)]) hx hb dX9_downSet_3 rfl hl (by decide) rfl (fun ls hl => ?_)
  have L4 : ∀ (n : Nat) (x1_4 : Int32) (x2_4 : Int32) (e1_4 : Int32) (H : Heap) (locs : List Loc) (ls : Array Slot), f9_downSet_L4 N v_persons v_now n x1_4 x2_4 = some e1_4 → va_P D vwCl [(h0, .inr (9, [oh0_0, oh0_1, oh0_2, oh0_3, oh0_4, oh0_5, oh0_6, oh0_7, .ref h0_persons, oh0_9, oh0_10, oh0_11, oh0_12, oh0_13, oh0_14, oh0_15, oh0_16, oh0_17, oh0_18, oh0_19, oh0_20, oh0_21, .ref h0_now, oh0_23, oh0_24, oh0_25, oh0_26, oh0_27, oh0_28, oh0_29, oh0_30, oh0_31, oh0_32, oh0_33, oh0_34, oh0_35, oh0_36, oh0_37])), (h0_persons, .inl (cy 2, 2, .inl v_persons)), (h0_now, .inl (cy 2, 60, .inl v_now))] H → va_D A [(h0, .inr (9, [oh0_0, oh0_1, oh0_2, oh0_3, oh0_4, oh0_5, oh0_6, oh0_7, .ref h0_persons, oh0_9, oh0_10, oh0_11, oh0_12, oh0_13, oh0_14, oh0_15, oh0_16, oh0_17, oh0_18, oh0_19, oh0_20, oh0_21, .ref h0_now, oh0_23, oh0_24, oh0_25, oh0_26, oh0_27, oh0_28, oh0_29, oh0_30, oh0_31, oh0_32, oh0_33, oh0_34, oh0_35, oh0_36, oh0_37])), (h0_persons, .inl (cy 2, 2, .inl v_persons)), (h0_now, .inl (cy 2, 60, .inl v_now))] → va_S A s.heap H locs → lv_has ls 3 [(0, .ref h0), (1, .int x1_4), (2, .int x2_4)] → (∀ (H : Heap) (locs : List Loc) (ls : Array Slot), va_P D vwCl [(h0, .inr (9, [oh0_0, oh0_1, oh0_2, oh0_3, oh0_4, oh0_5, oh0_6, oh0_7, .ref h0_persons, oh0_9, oh0_10, oh0_11, oh0_12, oh0_13, oh0_14, oh0_15, oh0_16, oh0_17, oh0_18, oh0_19, oh0_20, oh0_21, .ref h0_now, oh0_23, oh0_24, oh0_25, oh0_26, oh0_27, oh0_28, oh0_29, oh0_30, oh0_31, oh0_32, oh0_33, oh0_34, oh0_35, oh0_36, oh0_37])), (h0_persons, .inl (cy 2, 2, .inl v_persons)), (h0_now, .inl (cy 2, 60, .inl v_now))] H → va_D A [(h0, .inr (9, [oh0_0, oh0_1, oh0_2, oh0_3, oh0_4, oh0_5, oh0_6, oh0_7, .ref h0_persons, oh0_9, oh0_10, oh0_11, oh0_12, oh0_13, oh0_14, oh0_15, oh0_16, oh0_17, oh0_18, oh0_19, oh0_20, oh0_21, .ref h0_now, oh0_23, oh0_24, oh0_25, oh0_26, oh0_27, oh0_28, oh0_29, oh0_30, oh0_31, oh0_32, oh0_33, oh0_34, oh0_35, oh0_36, oh0_37])), (h0_persons, .inl (cy 2, 2, .inl v_persons)), (h0_now, .inl (cy 2, 60, .inl v_now))] → va_S A s.heap H locs → lv_has ls 3 [(1, .int e1_4)] → W p l e r9_downSet s m args below meth c H locs 0 0 Q (F0 m 38 ls [])) → W p l e r9_downSet s m args below meth c H locs 0 0 Q (F0 m 4 ls []) := by
    intro n
    induction n with
    | zero =>
      intro x1_4 x2_4 e1_4 H locs ls hM
      exact absurd hM (by simp [f9_downSet_L4])
    | succ n ih =>
      intro x1_4 x2_4 e1_4 H locs ls hM hP hD hS hl K
      rw [f9_downSet_L4] at hM
      refine lv_iload_n hx hb dX9_downSet_4 rfl (lv_at hl 2 rfl) ?_
      refine lv_aload_n hx hb dX9_downSet_5 rfl (lv_at hl 0 rfl) ?_
      refine va_get (D := D) (ci := 9) (v := .ref h0_persons) (C := RX9) (T := TX9) (N := 38) hx hb hts iX9 hown hK hP 0 rfl rfl 8 (by decide) k29 (fun _ h9 => h9) rfl dX9_downSet_6 ?_
      refine lv_iconst (v := 0) hx hb dX9_downSet_9 (by decide) ?_
      obtain ⟨h10, hM⟩ := gi_some hM
      refine va_iald hx hb hK hP 1 2 rfl rfl h10 dX9_downSet_10 ?_
      refine lv_icmp_ge (tgt := 38) hx hb dX9_downSet_11 (by decide) (fun c11 => ?_) (fun c11 => ?_)
      · have hM := g_pos c11 hM
        obtain rfl := si1 hM
        exact K _ _ _ hP hD hS (lv_sub hl [1] rfl)
      · have hM := g_neg c11 hM
        refine lv_iload_n hx hb dX9_downSet_14 rfl (lv_at hl 1 rfl) ?_
        refine lv_aload_n hx hb dX9_downSet_15 rfl (lv_at hl 0 rfl) ?_
        refine lv_iload_n hx hb dX9_downSet_16 rfl (lv_at hl 2 rfl) ?_
        obtain ⟨r17, hc17, hM⟩ := ob1_some hM
        refine cl_vi (As := [.int x2_4]) (rest := [.int x1_4]) (ci := 9) (q0 := 0) (wr := [(h0_persons, .inl (cy 2, 2, .inl v_persons))]) (ws2 := [(h0, .inr (9, [oh0_0, oh0_1, oh0_2, oh0_3, oh0_4, oh0_5, oh0_6, oh0_7, .ref h0_persons, oh0_9, oh0_10, oh0_11, oh0_12, oh0_13, oh0_14, oh0_15, oh0_16, oh0_17, oh0_18, oh0_19, oh0_20, oh0_21, .ref h0_now, oh0_23, oh0_24, oh0_25, oh0_26, oh0_27, oh0_28, oh0_29, oh0_30, oh0_31, oh0_32, oh0_33, oh0_34, oh0_35, oh0_36, oh0_37])), (h0_persons, .inl (cy 2, 2, .inl v_persons)), (h0_now, .inl (cy 2, 60, .inl v_now))]) (isC := [0, 2]) (isR := [1]) (pm := [1, 0, 2]) hx hb hml hown hts (c9_isDown l D cy N h0 h0_now oh0_0 oh0_1 oh0_2 oh0_3 oh0_4 oh0_5 oh0_6 oh0_7 (.ref h0_persons) oh0_9 oh0_10 oh0_11 oh0_12 oh0_13 oh0_14 oh0_15 oh0_16 oh0_17 oh0_18 oh0_19 oh0_20 oh0_21 oh0_23 oh0_24 oh0_25 oh0_26 oh0_27 oh0_28 oh0_29 oh0_30 oh0_31 oh0_32 oh0_33 oh0_34 oh0_35 oh0_36 oh0_37 x2_4 v_now r17 hc17) (cwV 1 hts gX9_downSet_X9_isDown rfl rfl rfl (by decide +kernel) ⟨Nat.le_of_ble_eq_true rfl, Nat.le_of_ble_eq_true rfl⟩) hK hP hD hS hA rfl rfl rfl rfl rfl (by decide) rfl rfl rfl hl.1 (Nat.le_of_ble_eq_true rfl) dX9_downSet_17 ⟨Nat.zero_le _, Nat.zero_le _⟩ rfl rfl (fun H locs hP hD hS => ?_)
        refine lv_if_eq (tgt := 29) hx hb dX9_downSet_20 (by decide) (fun c20 => ?_) (fun c20 => ?_)
        · have hM := g_pos c20 hM
          refine lv_iconst (v := 0) hx hb dX9_downSet_29 (by decide) ?_
          refine lv_ior hx hb dX9_downSet_30 ?_
          refine lv_istore_n (lv' := [(1, .int (x1_4 ||| (0 : Int32))), (0, .ref h0), (2, .int x2_4)]) hx hb dX9_downSet_31 rfl hl (by decide) rfl (fun ls hl => ?_)
          refine lv_iinc (v := x2_4 + (1 : Int32)) (lv' := [(2, .int (x2_4 + (1 : Int32))), (1, .int (x1_4 ||| (0 : Int32))), (0, .ref h0)]) hx hb dX9_downSet_32 hl (k := 2) rfl rfl (by decide) rfl (fun ls hl => ?_)
          refine lv_goto (tgt := 4) hx hb dX9_downSet_35 (by decide) ?_
          exact ih (x1_4 ||| (0 : Int32)) (x2_4 + (1 : Int32)) e1_4 _ _ _ hM hP hD hS (lv_sub hl [2, 1, 0] rfl) K
        · have hM := g_neg c20 hM
          refine lv_iconst (v := 1) hx hb dX9_downSet_23 (by decide) ?_
          refine lv_iload_n hx hb dX9_downSet_24 rfl (lv_at hl 2 rfl) ?_
          refine lv_ishl hx hb dX9_downSet_25 ?_
          refine lv_goto (tgt := 30) hx hb dX9_downSet_26 (by decide) ?_
          refine lv_ior hx hb dX9_downSet_30 ?_
          refine lv_istore_n (lv' := [(1, .int (x1_4 ||| ((1 : Int32) <<< (x2_4 &&& 31)))), (0, .ref h0), (2, .int x2_4)]) hx hb dX9_downSet_31 rfl hl (by decide) rfl (fun ls hl => ?_)
          refine lv_iinc (v := x2_4 + (1 : Int32)) (lv' := [(2, .int (x2_4 + (1 : Int32))), (1, .int (x1_4 ||| ((1 : Int32) <<< (x2_4 &&& 31)))), (0, .ref h0)]) hx hb dX9_downSet_32 hl (k := 2) rfl rfl (by decide) rfl (fun ls hl => ?_)
          refine lv_goto (tgt := 4) hx hb dX9_downSet_35 (by decide) ?_
          exact ih (x1_4 ||| ((1 : Int32) <<< (x2_4 &&& 31))) (x2_4 + (1 : Int32)) e1_4 _ _ _ hM hP hD hS (lv_sub hl [2, 1, 0] rfl) K
  obtain ⟨e1_4, hL4, hM⟩ := ob1_some hM
  refine L4 N (0 : Int32) (0 : Int32) e1_4 _ _ _ hL4 hP hD hS (lv_sub hl [2, 1, 0] rfl) ?_
  intro H locs ls hP hD hS hl
  refine lv_iload_n hx hb dX9_downSet_38 rfl (lv_at hl 0 rfl) ?_
  obtain rfl := si1 hM
  exact hret _ _ _ _ _ dX9_downSet_39 rfl rfl hP hD hS

-- ===== X9_stayTime stayTime ()I =====
abbrev r9_stayTime : Room := { frames := 0, cells := 0, slots := 0, locals := 0 }
def f9_stayTime_L4 (N : Nat) (v_stayMany : Int32) (v_rates : Nat → Int32) (v_stay : Nat → Int32) : Nat → Int32 → Int32 → Option Int32
  | 0, _, _ => none
  | n + 1, x1_4, x2_4 => if v_stayMany ≤ x2_4 then (some x1_4) else (gi x2_4 40 (gi (v_stay x2_4.toNatClampNeg) 14 ((f9_stayTime_L4 N v_stayMany v_rates v_stay n) (x1_4 + (v_rates (v_stay x2_4.toNatClampNeg).toNatClampNeg)) (x2_4 + (1 : Int32)))))
def f9_stayTime (N : Nat) (v_stayMany : Int32) (v_rates : Nat → Int32) (v_stay : Nat → Int32) : Option Int32 :=
  ob1 (f9_stayTime_L4 N v_stayMany v_rates v_stay N (0 : Int32) (0 : Int32)) fun e1_4 => some e1_4
set_option maxHeartbeats 4000000 in
set_option maxRecDepth 100000 in
theorem c9_stayTime (l : Launch) (D : va_G) (cy : Nat → ClassId) (N : Nat) (h0 h0_rates h0_stay : Nat) (oh0_0 oh0_1 oh0_2 oh0_3 oh0_5 oh0_6 oh0_7 oh0_8 oh0_9 oh0_10 oh0_11 oh0_12 oh0_13 oh0_14 oh0_15 oh0_16 oh0_17 oh0_18 oh0_19 oh0_20 oh0_21 oh0_22 oh0_23 oh0_26 oh0_27 oh0_28 oh0_29 oh0_30 oh0_31 oh0_32 oh0_33 oh0_34 oh0_35 oh0_36 oh0_37 : Value) (v_stayMany : Int32) (v_rates : Nat → Int32) (v_stay : Nat → Int32) (r : Int32) (hM : f9_stayTime N v_stayMany v_rates v_stay = some r) (sz : Nat) : CTi l yX9_stayTime wsX9_stayTime r9_stayTime [.ref h0] D cy sz [(h0, .inr (9, [oh0_0, oh0_1, oh0_2, oh0_3, .ref h0_rates, oh0_5, oh0_6, oh0_7, oh0_8, oh0_9, oh0_10, oh0_11, oh0_12, oh0_13, oh0_14, oh0_15, oh0_16, oh0_17, oh0_18, oh0_19, oh0_20, oh0_21, oh0_22, oh0_23, .ref h0_stay, .int v_stayMany, oh0_26, oh0_27, oh0_28, oh0_29, oh0_30, oh0_31, oh0_32, oh0_33, oh0_34, oh0_35, oh0_36, oh0_37])), (h0_rates, .inl (cy 2, 14, .inl v_rates)), (h0_stay, .inl (cy 2, 40, .inl v_stay))] [(h0, .inr (9, [oh0_0, oh0_1, oh0_2, oh0_3, .ref h0_rates, oh0_5, oh0_6, oh0_7, oh0_8, oh0_9, oh0_10, oh0_11, oh0_12, oh0_13, oh0_14, oh0_15, oh0_16, oh0_17, oh0_18, oh0_19, oh0_20, oh0_21, oh0_22, oh0_23, .ref h0_stay, .int v_stayMany, oh0_26, oh0_27, oh0_28, oh0_29, oh0_30, oh0_31, oh0_32, oh0_33, oh0_34, oh0_35, oh0_36, oh0_37])), (h0_rates, .inl (cy 2, 14, .inl v_rates)), (h0_stay, .inl (cy 2, 40, .inl v_stay))] r := by
  unfold f9_stayTime at hM
  refine ct_oi (cc := cX9_stayTime) (maxL := 3) (ty := .int) (by decide +kernel) rfl (Nat.le_of_ble_eq_true rfl) (lv0 := [(0, .ref h0)]) rfl ?_
  intro p e s m args below meth c A Q ls hx hb hts hown hml hK hP hD hS hA hret hl
  have hown : s.vm.findClass RX9 = some m.cls := hown
  have k159 := hts (.fieldLink RX9 159 "CaveYearsModel" "stayMany" "I") (List.mem_of_getElem? (i := 1) rfl)
  have iX9 := (fun w h => (List.mem_cons_of_mem _ (List.mem_append_right _ h)) : ∀ w ∈ wsX90, w ∈ wsX9_stayTime)
  have k17 := hts (.fieldLink RX9 17 "CaveYearsModel" "rates" "[I") (List.mem_of_getElem? (i := 2) rfl)
  have k57 := hts (.fieldLink RX9 57 "CaveYearsModel" "stay" "[I") (List.mem_of_getElem? (i := 3) rfl)
  refine lv_iconst (v := 0) hx hb dX9_stayTime_0 (by decide) ?_
  refine lv_istore_n (lv' := [(1, .int (0 : Int32)), (0, .ref h0)]) hx hb dX9_stayTime_1 rfl hl (by decide) rfl (fun ls hl => ?_)
  refine lv_iconst (v := 0) hx hb dX9_stayTime_2 (by decide) ?_
  refine lv_istore_n (lv' := [(2, .int (0 : Int32)), (1, .int (0 : Int32)), (0, .ref h0)]) hx hb dX9_stayTime_3 rfl hl (by decide) rfl (fun ls hl => ?_)
  have L4 : ∀ (n : Nat) (x1_4 : Int32) (x2_4 : Int32) (e1_4 : Int32) (H : Heap) (locs : List Loc) (ls : Array Slot), f9_stayTime_L4 N v_stayMany v_rates v_stay n x1_4 x2_4 = some e1_4 → va_P D vwCl [(h0, .inr (9, [oh0_0, oh0_1, oh0_2, oh0_3, .ref h0_rates, oh0_5, oh0_6, oh0_7, oh0_8, oh0_9, oh0_10, oh0_11, oh0_12, oh0_13, oh0_14, oh0_15, oh0_16, oh0_17, oh0_18, oh0_19, oh0_20, oh0_21, oh0_22, oh0_23, .ref h0_stay, .int v_stayMany, oh0_26, oh0_27, oh0_28, oh0_29, oh0_30, oh0_31, oh0_32, oh0_33, oh0_34, oh0_35, oh0_36, oh0_37])), (h0_rates, .inl (cy 2, 14, .inl v_rates)), (h0_stay, .inl (cy 2, 40, .inl v_stay))] H → va_D A [(h0, .inr (9, [oh0_0, oh0_1, oh0_2, oh0_3, .ref h0_rates, oh0_5, oh0_6, oh0_7, oh0_8, oh0_9, oh0_10, oh0_11, oh0_12, oh0_13, oh0_14, oh0_15, oh0_16, oh0_17, oh0_18, oh0_19, oh0_20, oh0_21, oh0_22, oh0_23, .ref h0_stay, .int v_stayMany, oh0_26, oh0_27, oh0_28, oh0_29, oh0_30, oh0_31, oh0_32, oh0_33, oh0_34, oh0_35, oh0_36, oh0_37])), (h0_rates, .inl (cy 2, 14, .inl v_rates)), (h0_stay, .inl (cy 2, 40, .inl v_stay))] → va_S A s.heap H locs → lv_has ls 3 [(0, .ref h0), (1, .int x1_4), (2, .int x2_4)] → (∀ (H : Heap) (locs : List Loc) (ls : Array Slot), va_P D vwCl [(h0, .inr (9, [oh0_0, oh0_1, oh0_2, oh0_3, .ref h0_rates, oh0_5, oh0_6, oh0_7, oh0_8, oh0_9, oh0_10, oh0_11, oh0_12, oh0_13, oh0_14, oh0_15, oh0_16, oh0_17, oh0_18, oh0_19, oh0_20, oh0_21, oh0_22, oh0_23, .ref h0_stay, .int v_stayMany, oh0_26, oh0_27, oh0_28, oh0_29, oh0_30, oh0_31, oh0_32, oh0_33, oh0_34, oh0_35, oh0_36, oh0_37])), (h0_rates, .inl (cy 2, 14, .inl v_rates)), (h0_stay, .inl (cy 2, 40, .inl v_stay))] H → va_D A [(h0, .inr (9, [oh0_0, oh0_1, oh0_2, oh0_3, .ref h0_rates, oh0_5, oh0_6, oh0_7, oh0_8, oh0_9, oh0_10, oh0_11, oh0_12, oh0_13, oh0_14, oh0_15, oh0_16, oh0_17, oh0_18, oh0_19, oh0_20, oh0_21, oh0_22, oh0_23, .ref h0_stay, .int v_stayMany, oh0_26, oh0_27, oh0_28, oh0_29, oh0_30, oh0_31, oh0_32, oh0_33, oh0_34, oh0_35, oh0_36, oh0_37])), (h0_rates, .inl (cy 2, 14, .inl v_rates)), (h0_stay, .inl (cy 2, 40, .inl v_stay))] → va_S A s.heap H locs → lv_has ls 3 [(1, .int e1_4)] → W p l e r9_stayTime s m args below meth c H locs 0 0 Q (F0 m 32 ls [])) → W p l e r9_stayTime s m args below meth c H locs 0 0 Q (F0 m 4 ls []) := by
    intro n
    induction n with
    | zero =>
      intro x1_4 x2_4 e1_4 H locs ls hM
      exact absurd hM (by simp [f9_stayTime_L4])
    | succ n ih =>
      intro x1_4 x2_4 e1_4 H locs ls hM hP hD hS hl K
      rw [f9_stayTime_L4] at hM
      refine lv_iload_n hx hb dX9_stayTime_4 rfl (lv_at hl 2 rfl) ?_
      refine lv_aload_n hx hb dX9_stayTime_5 rfl (lv_at hl 0 rfl) ?_
      refine va_get (D := D) (ci := 9) (v := .int v_stayMany) (C := RX9) (T := TX9) (N := 38) hx hb hts iX9 hown hK hP 0 rfl rfl 25 (by decide) k159 (fun _ h9 => h9) rfl dX9_stayTime_6 ?_
      refine lv_icmp_ge (tgt := 32) hx hb dX9_stayTime_9 (by decide) (fun c9 => ?_) (fun c9 => ?_)
      · have hM := g_pos c9 hM
        obtain rfl := si1 hM
        exact K _ _ _ hP hD hS (lv_sub hl [1] rfl)
      · have hM := g_neg c9 hM
        refine lv_iload_n hx hb dX9_stayTime_12 rfl (lv_at hl 1 rfl) ?_
        refine lv_aload_n hx hb dX9_stayTime_13 rfl (lv_at hl 0 rfl) ?_
        refine va_get (D := D) (ci := 9) (v := .ref h0_rates) (C := RX9) (T := TX9) (N := 38) hx hb hts iX9 hown hK hP 0 rfl rfl 4 (by decide) k17 (fun _ h9 => h9) rfl dX9_stayTime_14 ?_
        refine lv_aload_n hx hb dX9_stayTime_17 rfl (lv_at hl 0 rfl) ?_
        refine va_get (D := D) (ci := 9) (v := .ref h0_stay) (C := RX9) (T := TX9) (N := 38) hx hb hts iX9 hown hK hP 0 rfl rfl 24 (by decide) k57 (fun _ h9 => h9) rfl dX9_stayTime_18 ?_
        refine lv_iload_n hx hb dX9_stayTime_21 rfl (lv_at hl 2 rfl) ?_
        obtain ⟨h22, hM⟩ := gi_some hM
        refine va_iald hx hb hK hP 2 2 rfl rfl h22 dX9_stayTime_22 ?_
        obtain ⟨h23, hM⟩ := gi_some hM
        refine va_iald hx hb hK hP 1 2 rfl rfl h23 dX9_stayTime_23 ?_
        refine lv_iadd hx hb dX9_stayTime_24 ?_
        refine lv_istore_n (lv' := [(1, .int (x1_4 + (v_rates (v_stay x2_4.toNatClampNeg).toNatClampNeg))), (0, .ref h0), (2, .int x2_4)]) hx hb dX9_stayTime_25 rfl hl (by decide) rfl (fun ls hl => ?_)
        refine lv_iinc (v := x2_4 + (1 : Int32)) (lv' := [(2, .int (x2_4 + (1 : Int32))), (1, .int (x1_4 + (v_rates (v_stay x2_4.toNatClampNeg).toNatClampNeg))), (0, .ref h0)]) hx hb dX9_stayTime_26 hl (k := 2) rfl rfl (by decide) rfl (fun ls hl => ?_)
        refine lv_goto (tgt := 4) hx hb dX9_stayTime_29 (by decide) ?_
        exact ih (x1_4 + (v_rates (v_stay x2_4.toNatClampNeg).toNatClampNeg)) (x2_4 + (1 : Int32)) e1_4 _ _ _ hM hP hD hS (lv_sub hl [2, 1, 0] rfl) K
  obtain ⟨e1_4, hL4, hM⟩ := ob1_some hM
  refine L4 N (0 : Int32) (0 : Int32) e1_4 _ _ _ hL4 hP hD hS (lv_sub hl [2, 1, 0] rfl) ?_
  intro H locs ls hP hD hS hl
  refine lv_iload_n hx hb dX9_stayTime_32 rfl (lv_at hl 0 rfl) ?_
  obtain rfl := si1 hM
  exact hret _ _ _ _ _ dX9_stayTime_33 rfl rfl hP hD hS

-- ===== X9_told told (I)I =====
abbrev r9_told : Room := { frames := 2, cells := 0, slots := 0, locals := 43 }
def f9_told (N : Nat) (p1 : Int32) (v_typed : Int32) (v_stayMany : Int32) (v_tries : Int32) (v_lines : Int32) (v_parts : Nat → Int32) (v_rates : Nat → Int32) (v_mouths : Nat → Int32) (v_persons : Nat → Int32) (v_interest : Nat → Int32) (v_winters : Nat → Int32) (v_now : Nat → Int32) (v_stay : Nat → Int32) : Option Int32 :=
  if p1 = (0 : Int32) then (gi (0 : Int32) 2 (some (v_parts (0 : Int32).toNatClampNeg))) else (if p1 = (1 : Int32) then (gi (0 : Int32) 2 (some (v_mouths (0 : Int32).toNatClampNeg))) else (if p1 = (2 : Int32) then (gi (0 : Int32) 2 (some (v_persons (0 : Int32).toNatClampNeg))) else (if p1 = (3 : Int32) then (gi (0 : Int32) 2 (some (v_interest (0 : Int32).toNatClampNeg))) else (if p1 = (4 : Int32) then (gi (0 : Int32) 2 (some (v_winters (0 : Int32).toNatClampNeg))) else (if p1 = (5 : Int32) then (some v_typed) else (if p1 = (6 : Int32) then (gi (0 : Int32) 60 (some (v_now (0 : Int32).toNatClampNeg))) else (if p1 = (7 : Int32) then (ob1 (f9_downSet N v_persons v_now) fun r112 => some r112) else (if p1 = (8 : Int32) then (some v_stayMany) else (if p1 = (9 : Int32) then (ob1 (f9_stayTime N v_stayMany v_rates v_stay) fun r122 => some r122) else (if p1 = (10 : Int32) then (some v_tries) else (if p1 = (11 : Int32) then (some v_lines) else (some (-1000000002 : Int32)))))))))))))
set_option maxHeartbeats 4000000 in
set_option maxRecDepth 100000 in
theorem c9_told (l : Launch) (D : va_G) (cy : Nat → ClassId) (N : Nat) (h0 h0_parts h0_rates h0_mouths h0_persons h0_interest h0_winters h0_now h0_stay : Nat) (oh0_0 oh0_1 oh0_5 oh0_6 oh0_9 oh0_10 oh0_13 oh0_14 oh0_15 oh0_16 oh0_17 oh0_18 oh0_19 oh0_20 oh0_21 oh0_23 oh0_26 oh0_27 oh0_28 oh0_29 oh0_30 oh0_31 oh0_33 oh0_34 oh0_36 oh0_37 : Value) (p1 : Int32) (v_typed : Int32) (v_stayMany : Int32) (v_tries : Int32) (v_lines : Int32) (v_parts : Nat → Int32) (v_rates : Nat → Int32) (v_mouths : Nat → Int32) (v_persons : Nat → Int32) (v_interest : Nat → Int32) (v_winters : Nat → Int32) (v_now : Nat → Int32) (v_stay : Nat → Int32) (r : Int32) (hM : f9_told N p1 v_typed v_stayMany v_tries v_lines v_parts v_rates v_mouths v_persons v_interest v_winters v_now v_stay = some r) (sz : Nat) : CTi l yX9_told wsX9_told r9_told [.ref h0, .int p1] D cy sz [(h0, .inr (9, [oh0_0, oh0_1, .int v_typed, .ref h0_parts, .ref h0_rates, oh0_5, oh0_6, .ref h0_mouths, .ref h0_persons, oh0_9, oh0_10, .ref h0_interest, .ref h0_winters, oh0_13, oh0_14, oh0_15, oh0_16, oh0_17, oh0_18, oh0_19, oh0_20, oh0_21, .ref h0_now, oh0_23, .ref h0_stay, .int v_stayMany, oh0_26, oh0_27, oh0_28, oh0_29, oh0_30, oh0_31, .int v_tries, oh0_33, oh0_34, .int v_lines, oh0_36, oh0_37])), (h0_parts, .inl (cy 2, 2, .inl v_parts)), (h0_rates, .inl (cy 2, 14, .inl v_rates)), (h0_mouths, .inl (cy 2, 2, .inl v_mouths)), (h0_persons, .inl (cy 2, 2, .inl v_persons)), (h0_interest, .inl (cy 2, 2, .inl v_interest)), (h0_winters, .inl (cy 2, 2, .inl v_winters)), (h0_now, .inl (cy 2, 60, .inl v_now)), (h0_stay, .inl (cy 2, 40, .inl v_stay))] [(h0, .inr (9, [oh0_0, oh0_1, .int v_typed, .ref h0_parts, .ref h0_rates, oh0_5, oh0_6, .ref h0_mouths, .ref h0_persons, oh0_9, oh0_10, .ref h0_interest, .ref h0_winters, oh0_13, oh0_14, oh0_15, oh0_16, oh0_17, oh0_18, oh0_19, oh0_20, oh0_21, .ref h0_now, oh0_23, .ref h0_stay, .int v_stayMany, oh0_26, oh0_27, oh0_28, oh0_29, oh0_30, oh0_31, .int v_tries, oh0_33, oh0_34, .int v_lines, oh0_36, oh0_37])), (h0_parts, .inl (cy 2, 2, .inl v_parts)), (h0_rates, .inl (cy 2, 14, .inl v_rates)), (h0_mouths, .inl (cy 2, 2, .inl v_mouths)), (h0_persons, .inl (cy 2, 2, .inl v_persons)), (h0_interest, .inl (cy 2, 2, .inl v_interest)), (h0_winters, .inl (cy 2, 2, .inl v_winters)), (h0_now, .inl (cy 2, 60, .inl v_now)), (h0_stay, .inl (cy 2, 40, .inl v_stay))] r := by
  unfold f9_told at hM
  refine ct_oi (cc := cX9_told) (maxL := 2) (ty := .int) (by decide +kernel) rfl (Nat.le_of_ble_eq_true rfl) (lv0 := [(0, .ref h0), (1, .int p1)]) rfl ?_
  intro p e s m args below meth c A Q ls hx hb hts hown hml hK hP hD hS hA hret hl
  have hown : s.vm.findClass RX9 = some m.cls := hown
  have k99 := hts (.constant RX9 99 (-1000000002)) (List.mem_of_getElem? (i := 11) rfl)
  have k165 := hts (.fieldLink RX9 165 "CaveYearsModel" "lines" "I") (List.mem_of_getElem? (i := 10) rfl)
  have iX9 := (fun w h => (List.mem_cons_of_mem _ (List.mem_append_right _ h)) : ∀ w ∈ wsX90, w ∈ wsX9_told)
  have k162 := hts (.fieldLink RX9 162 "CaveYearsModel" "tries" "I") (List.mem_of_getElem? (i := 9) rfl)
  have k159 := hts (.fieldLink RX9 159 "CaveYearsModel" "stayMany" "I") (List.mem_of_getElem? (i := 8) rfl)
  have k50 := hts (.fieldLink RX9 50 "CaveYearsModel" "now" "[I") (List.mem_of_getElem? (i := 7) rfl)
  have k100 := hts (.fieldLink RX9 100 "CaveYearsModel" "typed" "I") (List.mem_of_getElem? (i := 6) rfl)
  have k41 := hts (.fieldLink RX9 41 "CaveYearsModel" "winters" "[I") (List.mem_of_getElem? (i := 5) rfl)
  have k38 := hts (.fieldLink RX9 38 "CaveYearsModel" "interest" "[I") (List.mem_of_getElem? (i := 4) rfl)
  have k29 := hts (.fieldLink RX9 29 "CaveYearsModel" "persons" "[I") (List.mem_of_getElem? (i := 3) rfl)
  have k26 := hts (.fieldLink RX9 26 "CaveYearsModel" "mouths" "[I") (List.mem_of_getElem? (i := 2) rfl)
  have k13 := hts (.fieldLink RX9 13 "CaveYearsModel" "parts" "[I") (List.mem_of_getElem? (i := 1) rfl)
  refine lv_iload_n hx hb dX9_told_0 rfl (lv_at hl 1 rfl) ?_
  rcases Classical.em (p1 = (0 : Int32)) with c1_0 | c1_0
  · have hM := g_pos c1_0 hM
    refine lv_tableIn (off := 63) (tgt := 64) hx hb dX9_told_1 (by rw [c1_0]; decide) (by rw [c1_0]; decide) (by rw [c1_0]; decide) (by decide) ?_
    refine lv_aload_n hx hb dX9_told_64 rfl (lv_at hl 0 rfl) ?_
    refine va_get (D := D) (ci := 9) (v := .ref h0_parts) (C := RX9) (T := TX9) (N := 38) hx hb hts iX9 hown hK hP 0 rfl rfl 3 (by decide) k13 (fun _ h9 => h9) rfl dX9_told_65 ?_
    refine lv_iconst (v := 0) hx hb dX9_told_68 (by decide) ?_
    obtain ⟨h69, hM⟩ := gi_some hM
    refine va_iald hx hb hK hP 1 2 rfl rfl h69 dX9_told_69 ?_
    obtain rfl := si1 hM
    exact hret _ _ _ _ _ dX9_told_70 rfl rfl hP hD hS
  · have hM := g_neg c1_0 hM
    rcases Classical.em (p1 = (1 : Int32)) with c1_1 | c1_1
    · have hM := g_pos c1_1 hM
      refine lv_tableIn (off := 70) (tgt := 71) hx hb dX9_told_1 (by rw [c1_1]; decide) (by rw [c1_1]; decide) (by rw [c1_1]; decide) (by decide) ?_
      refine lv_aload_n hx hb dX9_told_71 rfl (lv_at hl 0 rfl) ?_
      refine va_get (D := D) (ci := 9) (v := .ref h0_mouths) (C := RX9) (T := TX9) (N := 38) hx hb hts iX9 hown hK hP 0 rfl rfl 7 (by decide) k26 (fun _ h9 => h9) rfl dX9_told_72 ?_
      refine lv_iconst (v := 0) hx hb dX9_told_75 (by decide) ?_
      obtain ⟨h76, hM⟩ := gi_some hM
      refine va_iald hx hb hK hP 3 2 rfl rfl h76 dX9_told_76 ?_
      obtain rfl := si1 hM
      exact hret _ _ _ _ _ dX9_told_77 rfl rfl hP hD hS
    · have hM := g_neg c1_1 hM
      rcases Classical.em (p1 = (2 : Int32)) with c1_2 | c1_2
      · have hM := g_pos c1_2 hM
        refine lv_tableIn (off := 77) (tgt := 78) hx hb dX9_told_1 (by rw [c1_2]; decide) (by rw [c1_2]; decide) (by rw [c1_2]; decide) (by decide) ?_
        refine lv_aload_n hx hb dX9_told_78 rfl (lv_at hl 0 rfl) ?_
        refine va_get (D := D) (ci := 9) (v := .ref h0_persons) (C := RX9) (T := TX9) (N := 38) hx hb hts iX9 hown hK hP 0 rfl rfl 8 (by decide) k29 (fun _ h9 => h9) rfl dX9_told_79 ?_
        refine lv_iconst (v := 0) hx hb dX9_told_82 (by decide) ?_
        obtain ⟨h83, hM⟩ := gi_some hM
        refine va_iald hx hb hK hP 4 2 rfl rfl h83 dX9_told_83 ?_
        obtain rfl := si1 hM
        exact hret _ _ _ _ _ dX9_told_84 rfl rfl hP hD hS
      · have hM := g_neg c1_2 hM
        rcases Classical.em (p1 = (3 : Int32)) with c1_3 | c1_3
        · have hM := g_pos c1_3 hM
          refine lv_tableIn (off := 84) (tgt := 85) hx hb dX9_told_1 (by rw [c1_3]; decide) (by rw [c1_3]; decide) (by rw [c1_3]; decide) (by decide) ?_
          refine lv_aload_n hx hb dX9_told_85 rfl (lv_at hl 0 rfl) ?_
          refine va_get (D := D) (ci := 9) (v := .ref h0_interest) (C := RX9) (T := TX9) (N := 38) hx hb hts iX9 hown hK hP 0 rfl rfl 11 (by decide) k38 (fun _ h9 => h9) rfl dX9_told_86 ?_
          refine lv_iconst (v := 0) hx hb dX9_told_89 (by decide) ?_
          obtain ⟨h90, hM⟩ := gi_some hM
          refine va_iald hx hb hK hP 5 2 rfl rfl h90 dX9_told_90 ?_
          obtain rfl := si1 hM
          exact hret _ _ _ _ _ dX9_told_91 rfl rfl hP hD hS
        · have hM := g_neg c1_3 hM
          rcases Classical.em (p1 = (4 : Int32)) with c1_4 | c1_4
          · have hM := g_pos c1_4 hM
            refine lv_tableIn (off := 91) (tgt := 92) hx hb dX9_told_1 (by rw [c1_4]; decide) (by rw [c1_4]; decide) (by rw [c1_4]; decide) (by decide) ?_
            refine lv_aload_n hx hb dX9_told_92 rfl (lv_at hl 0 rfl) ?_
            refine va_get (D := D) (ci := 9) (v := .ref h0_winters) (C := RX9) (T := TX9) (N := 38) hx hb hts iX9 hown hK hP 0 rfl rfl 12 (by decide) k41 (fun _ h9 => h9) rfl dX9_told_93 ?_
            refine lv_iconst (v := 0) hx hb dX9_told_96 (by decide) ?_
            obtain ⟨h97, hM⟩ := gi_some hM
            refine va_iald hx hb hK hP 6 2 rfl rfl h97 dX9_told_97 ?_
            obtain rfl := si1 hM
            exact hret _ _ _ _ _ dX9_told_98 rfl rfl hP hD hS
          · have hM := g_neg c1_4 hM
            rcases Classical.em (p1 = (5 : Int32)) with c1_5 | c1_5
            · have hM := g_pos c1_5 hM
              refine lv_tableIn (off := 98) (tgt := 99) hx hb dX9_told_1 (by rw [c1_5]; decide) (by rw [c1_5]; decide) (by rw [c1_5]; decide) (by decide) ?_
              refine lv_aload_n hx hb dX9_told_99 rfl (lv_at hl 0 rfl) ?_
              refine va_get (D := D) (ci := 9) (v := .int v_typed) (C := RX9) (T := TX9) (N := 38) hx hb hts iX9 hown hK hP 0 rfl rfl 2 (by decide) k100 (fun _ h9 => h9) rfl dX9_told_100 ?_
              obtain rfl := si1 hM
              exact hret _ _ _ _ _ dX9_told_103 rfl rfl hP hD hS
            · have hM := g_neg c1_5 hM
              rcases Classical.em (p1 = (6 : Int32)) with c1_6 | c1_6
              · have hM := g_pos c1_6 hM
                refine lv_tableIn (off := 103) (tgt := 104) hx hb dX9_told_1 (by rw [c1_6]; decide) (by rw [c1_6]; decide) (by rw [c1_6]; decide) (by decide) ?_
                refine lv_aload_n hx hb dX9_told_104 rfl (lv_at hl 0 rfl) ?_
                refine va_get (D := D) (ci := 9) (v := .ref h0_now) (C := RX9) (T := TX9) (N := 38) hx hb hts iX9 hown hK hP 0 rfl rfl 22 (by decide) k50 (fun _ h9 => h9) rfl dX9_told_105 ?_
                refine lv_iconst (v := 0) hx hb dX9_told_108 (by decide) ?_
                obtain ⟨h109, hM⟩ := gi_some hM
                refine va_iald hx hb hK hP 7 2 rfl rfl h109 dX9_told_109 ?_
                obtain rfl := si1 hM
                exact hret _ _ _ _ _ dX9_told_110 rfl rfl hP hD hS
              · have hM := g_neg c1_6 hM
                rcases Classical.em (p1 = (7 : Int32)) with c1_7 | c1_7
                · have hM := g_pos c1_7 hM
                  refine lv_tableIn (off := 110) (tgt := 111) hx hb dX9_told_1 (by rw [c1_7]; decide) (by rw [c1_7]; decide) (by rw [c1_7]; decide) (by decide) ?_
                  refine lv_aload_n hx hb dX9_told_111 rfl (lv_at hl 0 rfl) ?_
                  obtain ⟨r112, hc112, hM⟩ := ob1_some hM
                  refine cl_vi (As := []) (rest := []) (ci := 9) (q0 := 0) (wr := [(h0_parts, .inl (cy 2, 2, .inl v_parts)), (h0_rates, .inl (cy 2, 14, .inl v_rates)), (h0_mouths, .inl (cy 2, 2, .inl v_mouths)), (h0_interest, .inl (cy 2, 2, .inl v_interest)), (h0_winters, .inl (cy 2, 2, .inl v_winters)), (h0_stay, .inl (cy 2, 40, .inl v_stay))]) (ws2 := [(h0, .inr (9, [oh0_0, oh0_1, .int v_typed, .ref h0_parts, .ref h0_rates, oh0_5, oh0_6, .ref h0_mouths, .ref h0_persons, oh0_9, oh0_10, .ref h0_interest, .ref h0_winters, oh0_13, oh0_14, oh0_15, oh0_16, oh0_17, oh0_18, oh0_19, oh0_20, oh0_21, .ref h0_now, oh0_23, .ref h0_stay, .int v_stayMany, oh0_26, oh0_27, oh0_28, oh0_29, oh0_30, oh0_31, .int v_tries, oh0_33, oh0_34, .int v_lines, oh0_36, oh0_37])), (h0_parts, .inl (cy 2, 2, .inl v_parts)), (h0_rates, .inl (cy 2, 14, .inl v_rates)), (h0_mouths, .inl (cy 2, 2, .inl v_mouths)), (h0_persons, .inl (cy 2, 2, .inl v_persons)), (h0_interest, .inl (cy 2, 2, .inl v_interest)), (h0_winters, .inl (cy 2, 2, .inl v_winters)), (h0_now, .inl (cy 2, 60, .inl v_now)), (h0_stay, .inl (cy 2, 40, .inl v_stay))]) (isC := [0, 4, 7]) (isR := [1, 2, 3, 5, 6, 8]) (pm := [6, 0, 1, 2, 7, 3, 4, 8, 5]) hx hb hml hown hts (c9_downSet l D cy N h0 h0_persons h0_now oh0_0 oh0_1 (.int v_typed) (.ref h0_parts) (.ref h0_rates) oh0_5 oh0_6 (.ref h0_mouths) oh0_9 oh0_10 (.ref h0_interest) (.ref h0_winters) oh0_13 oh0_14 oh0_15 oh0_16 oh0_17 oh0_18 oh0_19 oh0_20 oh0_21 oh0_23 (.ref h0_stay) (.int v_stayMany) oh0_26 oh0_27 oh0_28 oh0_29 oh0_30 oh0_31 (.int v_tries) oh0_33 oh0_34 (.int v_lines) oh0_36 oh0_37 v_persons v_now r112 hc112) (cwV 0 hts gX9_told_X9_downSet rfl rfl rfl (by decide +kernel) ⟨Nat.le_of_ble_eq_true rfl, Nat.le_of_ble_eq_true rfl⟩) hK hP hD hS hA rfl rfl rfl rfl rfl (by decide) rfl rfl rfl hl.1 (Nat.le_of_ble_eq_true rfl) dX9_told_112 ⟨Nat.zero_le _, Nat.zero_le _⟩ rfl rfl (fun H locs hP hD hS => ?_)
                  obtain rfl := si1 hM
                  exact hret _ _ _ _ _ dX9_told_115 rfl rfl hP hD hS
                · have hM := g_neg c1_7 hM
                  rcases Classical.em (p1 = (8 : Int32)) with c1_8 | c1_8
                  · have hM := g_pos c1_8 hM
                    refine lv_tableIn (off := 115) (tgt := 116) hx hb dX9_told_1 (by rw [c1_8]; decide) (by rw [c1_8]; decide) (by rw [c1_8]; decide) (by decide) ?_
                    refine lv_aload_n hx hb dX9_told_116 rfl (lv_at hl 0 rfl) ?_
                    refine va_get (D := D) (ci := 9) (v := .int v_stayMany) (C := RX9) (T := TX9) (N := 38) hx hb hts iX9 hown hK hP 0 rfl rfl 25 (by decide) k159 (fun _ h9 => h9) rfl dX9_told_117 ?_
                    obtain rfl := si1 hM
                    exact hret _ _ _ _ _ dX9_told_120 rfl rfl hP hD hS
                  · have hM := g_neg c1_8 hM
                    rcases Classical.em (p1 = (9 : Int32)) with c1_9 | c1_9
                    · have hM := g_pos c1_9 hM
                      refine lv_tableIn (off := 120) (tgt := 121) hx hb dX9_told_1 (by rw [c1_9]; decide) (by rw [c1_9]; decide) (by rw [c1_9]; decide) (by decide) ?_
                      refine lv_aload_n hx hb dX9_told_121 rfl (lv_at hl 0 rfl) ?_
                      obtain ⟨r122, hc122, hM⟩ := ob1_some hM
                      refine cl_vi (As := []) (rest := []) (ci := 9) (q0 := 0) (wr := [(h0_parts, .inl (cy 2, 2, .inl v_parts)), (h0_mouths, .inl (cy 2, 2, .inl v_mouths)), (h0_persons, .inl (cy 2, 2, .inl v_persons)), (h0_interest, .inl (cy 2, 2, .inl v_interest)), (h0_winters, .inl (cy 2, 2, .inl v_winters)), (h0_now, .inl (cy 2, 60, .inl v_now))]) (ws2 := [(h0, .inr (9, [oh0_0, oh0_1, .int v_typed, .ref h0_parts, .ref h0_rates, oh0_5, oh0_6, .ref h0_mouths, .ref h0_persons, oh0_9, oh0_10, .ref h0_interest, .ref h0_winters, oh0_13, oh0_14, oh0_15, oh0_16, oh0_17, oh0_18, oh0_19, oh0_20, oh0_21, .ref h0_now, oh0_23, .ref h0_stay, .int v_stayMany, oh0_26, oh0_27, oh0_28, oh0_29, oh0_30, oh0_31, .int v_tries, oh0_33, oh0_34, .int v_lines, oh0_36, oh0_37])), (h0_parts, .inl (cy 2, 2, .inl v_parts)), (h0_rates, .inl (cy 2, 14, .inl v_rates)), (h0_mouths, .inl (cy 2, 2, .inl v_mouths)), (h0_persons, .inl (cy 2, 2, .inl v_persons)), (h0_interest, .inl (cy 2, 2, .inl v_interest)), (h0_winters, .inl (cy 2, 2, .inl v_winters)), (h0_now, .inl (cy 2, 60, .inl v_now)), (h0_stay, .inl (cy 2, 40, .inl v_stay))]) (isC := [0, 2, 8]) (isR := [1, 3, 4, 5, 6, 7]) (pm := [6, 0, 7, 1, 2, 3, 4, 5, 8]) hx hb hml hown hts (c9_stayTime l D cy N h0 h0_rates h0_stay oh0_0 oh0_1 (.int v_typed) (.ref h0_parts) oh0_5 oh0_6 (.ref h0_mouths) (.ref h0_persons) oh0_9 oh0_10 (.ref h0_interest) (.ref h0_winters) oh0_13 oh0_14 oh0_15 oh0_16 oh0_17 oh0_18 oh0_19 oh0_20 oh0_21 (.ref h0_now) oh0_23 oh0_26 oh0_27 oh0_28 oh0_29 oh0_30 oh0_31 (.int v_tries) oh0_33 oh0_34 (.int v_lines) oh0_36 oh0_37 v_stayMany v_rates v_stay r122 hc122) (cwV 0 hts gX9_told_X9_stayTime rfl rfl rfl (by decide +kernel) ⟨Nat.le_of_ble_eq_true rfl, Nat.le_of_ble_eq_true rfl⟩) hK hP hD hS hA rfl rfl rfl rfl rfl (by decide) rfl rfl rfl hl.1 (Nat.le_of_ble_eq_true rfl) dX9_told_122 ⟨Nat.zero_le _, Nat.zero_le _⟩ rfl rfl (fun H locs hP hD hS => ?_)
                      obtain rfl := si1 hM
                      exact hret _ _ _ _ _ dX9_told_125 rfl rfl hP hD hS
                    · have hM := g_neg c1_9 hM
                      rcases Classical.em (p1 = (10 : Int32)) with c1_10 | c1_10
                      · have hM := g_pos c1_10 hM
                        refine lv_tableIn (off := 125) (tgt := 126) hx hb dX9_told_1 (by rw [c1_10]; decide) (by rw [c1_10]; decide) (by rw [c1_10]; decide) (by decide) ?_
                        refine lv_aload_n hx hb dX9_told_126 rfl (lv_at hl 0 rfl) ?_
                        refine va_get (D := D) (ci := 9) (v := .int v_tries) (C := RX9) (T := TX9) (N := 38) hx hb hts iX9 hown hK hP 0 rfl rfl 32 (by decide) k162 (fun _ h9 => h9) rfl dX9_told_127 ?_
                        obtain rfl := si1 hM
                        exact hret _ _ _ _ _ dX9_told_130 rfl rfl hP hD hS
                      · have hM := g_neg c1_10 hM
                        rcases Classical.em (p1 = (11 : Int32)) with c1_11 | c1_11
                        · have hM := g_pos c1_11 hM
                          refine lv_tableIn (off := 130) (tgt := 131) hx hb dX9_told_1 (by rw [c1_11]; decide) (by rw [c1_11]; decide) (by rw [c1_11]; decide) (by decide) ?_
                          refine lv_aload_n hx hb dX9_told_131 rfl (lv_at hl 0 rfl) ?_
                          refine va_get (D := D) (ci := 9) (v := .int v_lines) (C := RX9) (T := TX9) (N := 38) hx hb hts iX9 hown hK hP 0 rfl rfl 35 (by decide) k165 (fun _ h9 => h9) rfl dX9_told_132 ?_
                          obtain rfl := si1 hM
                          exact hret _ _ _ _ _ dX9_told_135 rfl rfl hP hD hS
                        · have hM := g_neg c1_11 hM
                          have n1_0 : p1.toInt ≠ 0 := fun q => c1_0 (Int32.toInt_inj.mp (q.trans (by decide)))
                          have n1_1 : p1.toInt ≠ 1 := fun q => c1_1 (Int32.toInt_inj.mp (q.trans (by decide)))
                          have n1_2 : p1.toInt ≠ 2 := fun q => c1_2 (Int32.toInt_inj.mp (q.trans (by decide)))
                          have n1_3 : p1.toInt ≠ 3 := fun q => c1_3 (Int32.toInt_inj.mp (q.trans (by decide)))
                          have n1_4 : p1.toInt ≠ 4 := fun q => c1_4 (Int32.toInt_inj.mp (q.trans (by decide)))
                          have n1_5 : p1.toInt ≠ 5 := fun q => c1_5 (Int32.toInt_inj.mp (q.trans (by decide)))
                          have n1_6 : p1.toInt ≠ 6 := fun q => c1_6 (Int32.toInt_inj.mp (q.trans (by decide)))
                          have n1_7 : p1.toInt ≠ 7 := fun q => c1_7 (Int32.toInt_inj.mp (q.trans (by decide)))
                          have n1_8 : p1.toInt ≠ 8 := fun q => c1_8 (Int32.toInt_inj.mp (q.trans (by decide)))
                          have n1_9 : p1.toInt ≠ 9 := fun q => c1_9 (Int32.toInt_inj.mp (q.trans (by decide)))
                          have n1_10 : p1.toInt ≠ 10 := fun q => c1_10 (Int32.toInt_inj.mp (q.trans (by decide)))
                          have n1_11 : p1.toInt ≠ 11 := fun q => c1_11 (Int32.toInt_inj.mp (q.trans (by decide)))
                          refine lv_tableOut (tgt := 136) hx hb dX9_told_1 (by omega) (by decide) ?_
                          refine lv_ldc (v := -1000000002) hx hb hown k99 dX9_told_136 ?_
                          obtain rfl := si1 hM
                          exact hret _ _ _ _ _ dX9_told_138 rfl rfl hP hD hS

-- ===== X9_alike alike (I)I =====
abbrev r9_alike : Room := { frames := 0, cells := 0, slots := 0, locals := 0 }
def f9_alike_L4 (N : Nat) (p1 : Int32) (v_parts : Nat → Int32) (v_rates : Nat → Int32) : Nat → Int32 → Int32 → Option Int32
  | 0, _, _ => none
  | n + 1, x2_4, x3_4 => gi (0 : Int32) 2 (if (v_parts (0 : Int32).toNatClampNeg) ≤ x3_4 then (some x2_4) else (if x3_4 = p1 then ((f9_alike_L4 N p1 v_parts v_rates n) (x2_4 ||| (0 : Int32)) (x3_4 + (1 : Int32))) else (gi x3_4 14 (gi p1 14 (if (v_rates x3_4.toNatClampNeg) = (v_rates p1.toNatClampNeg) then ((f9_alike_L4 N p1 v_parts v_rates n) (x2_4 ||| ((1 : Int32) <<< (x3_4 &&& 31))) (x3_4 + (1 : Int32))) else ((f9_alike_L4 N p1 v_parts v_rates n) (x2_4 ||| (0 : Int32)) (x3_4 + (1 : Int32))))))))
def f9_alike (N : Nat) (p1 : Int32) (v_parts : Nat → Int32) (v_rates : Nat → Int32) : Option Int32 :=
  ob1 (f9_alike_L4 N p1 v_parts v_rates N (0 : Int32) (0 : Int32)) fun e2_4 => some e2_4
set_option maxHeartbeats 4000000 in
set_option maxRecDepth 100000 in
theorem c9_alike (l : Launch) (D : va_G) (cy : Nat → ClassId) (N : Nat) (h0 h0_parts h0_rates : Nat) (oh0_0 oh0_1 oh0_2 oh0_5 oh0_6 oh0_7 oh0_8 oh0_9 oh0_10 oh0_11 oh0_12 oh0_13 oh0_14 oh0_15 oh0_16 oh0_17 oh0_18 oh0_19 oh0_20 oh0_21 oh0_22 oh0_23 oh0_24 oh0_25 oh0_26 oh0_27 oh0_28 oh0_29 oh0_30 oh0_31 oh0_32 oh0_33 oh0_34 oh0_35 oh0_36 oh0_37 : Value) (p1 : Int32) (v_parts : Nat → Int32) (v_rates : Nat → Int32) (r : Int32) (hM : f9_alike N p1 v_parts v_rates = some r) (sz : Nat) : CTi l yX9_alike wsX9_alike r9_alike [.ref h0, .int p1] D cy sz [(h0, .inr (9, [oh0_0, oh0_1, oh0_2, .ref h0_parts, .ref h0_rates, oh0_5, oh0_6, oh0_7, oh0_8, oh0_9, oh0_10, oh0_11, oh0_12, oh0_13, oh0_14, oh0_15, oh0_16, oh0_17, oh0_18, oh0_19, oh0_20, oh0_21, oh0_22, oh0_23, oh0_24, oh0_25, oh0_26, oh0_27, oh0_28, oh0_29, oh0_30, oh0_31, oh0_32, oh0_33, oh0_34, oh0_35, oh0_36, oh0_37])), (h0_parts, .inl (cy 2, 2, .inl v_parts)), (h0_rates, .inl (cy 2, 14, .inl v_rates))] [(h0, .inr (9, [oh0_0, oh0_1, oh0_2, .ref h0_parts, .ref h0_rates, oh0_5, oh0_6, oh0_7, oh0_8, oh0_9, oh0_10, oh0_11, oh0_12, oh0_13, oh0_14, oh0_15, oh0_16, oh0_17, oh0_18, oh0_19, oh0_20, oh0_21, oh0_22, oh0_23, oh0_24, oh0_25, oh0_26, oh0_27, oh0_28, oh0_29, oh0_30, oh0_31, oh0_32, oh0_33, oh0_34, oh0_35, oh0_36, oh0_37])), (h0_parts, .inl (cy 2, 2, .inl v_parts)), (h0_rates, .inl (cy 2, 14, .inl v_rates))] r := by
  unfold f9_alike at hM
  refine ct_oi (cc := cX9_alike) (maxL := 4) (ty := .int) (by decide +kernel) rfl (Nat.le_of_ble_eq_true rfl) (lv0 := [(0, .ref h0), (1, .int p1)]) rfl ?_
  intro p e s m args below meth c A Q ls hx hb hts hown hml hK hP hD hS hA hret hl
  have hown : s.vm.findClass RX9 = some m.cls := hown
  have k13 := hts (.fieldLink RX9 13 "CaveYearsModel" "parts" "[I") (List.mem_of_getElem? (i := 1) rfl)
  have iX9 := (fun w h => (List.mem_cons_of_mem _ (List.mem_append_right _ h)) : ∀ w ∈ wsX90, w ∈ wsX9_alike)
  have k17 := hts (.fieldLink RX9 17 "CaveYearsModel" "rates" "[I") (List.mem_of_getElem? (i := 2) rfl)
  refine lv_iconst (v := 0) hx hb dX9_alike_0 (by decide) ?_
  refine lv_istore_n (lv' := [(2, .int (0 : Int32)), (0, .ref h0), (1, .int p1)]) hx hb dX9_alike_1 rfl hl (by decide) rfl (fun ls hl => ?_)
  refine lv_iconst (v := 0) hx hb dX9_alike_2 (by decide) ?_
  refine lv_istore_n (lv' := [(3, .int (0 : Int32)), (2, .int (0 : Int32)), (0, .ref h0), (1, .int p1)]) hx hb dX9_alike_3 rfl hl (by decide) rfl (fun ls hl => ?_)
  have L4 : ∀ (n : Nat) (x2_4 : Int32) (x3_4 : Int32) (e2_4 : Int32) (H : Heap) (locs : List Loc) (ls : Array Slot), f9_alike_L4 N p1 v_parts v_rates n x2_4 x3_4 = some e2_4 → va_P D vwCl [(h0, .inr (9, [oh0_0, oh0_1, oh0_2, .ref h0_parts, .ref h0_rates, oh0_5, oh0_6, oh0_7, oh0_8, oh0_9, oh0_10, oh0_11, oh0_12, oh0_13, oh0_14, oh0_15, oh0_16, oh0_17, oh0_18, oh0_19, oh0_20, oh0_21, oh0_22, oh0_23, oh0_24, oh0_25, oh0_26, oh0_27, oh0_28, oh0_29, oh0_30, oh0_31, oh0_32, oh0_33, oh0_34, oh0_35, oh0_36, oh0_37])), (h0_parts, .inl (cy 2, 2, .inl v_parts)), (h0_rates, .inl (cy 2, 14, .inl v_rates))] H → va_D A [(h0, .inr (9, [oh0_0, oh0_1, oh0_2, .ref h0_parts, .ref h0_rates, oh0_5, oh0_6, oh0_7, oh0_8, oh0_9, oh0_10, oh0_11, oh0_12, oh0_13, oh0_14, oh0_15, oh0_16, oh0_17, oh0_18, oh0_19, oh0_20, oh0_21, oh0_22, oh0_23, oh0_24, oh0_25, oh0_26, oh0_27, oh0_28, oh0_29, oh0_30, oh0_31, oh0_32, oh0_33, oh0_34, oh0_35, oh0_36, oh0_37])), (h0_parts, .inl (cy 2, 2, .inl v_parts)), (h0_rates, .inl (cy 2, 14, .inl v_rates))] → va_S A s.heap H locs → lv_has ls 4 [(0, .ref h0), (1, .int p1), (2, .int x2_4), (3, .int x3_4)] → (∀ (H : Heap) (locs : List Loc) (ls : Array Slot), va_P D vwCl [(h0, .inr (9, [oh0_0, oh0_1, oh0_2, .ref h0_parts, .ref h0_rates, oh0_5, oh0_6, oh0_7, oh0_8, oh0_9, oh0_10, oh0_11, oh0_12, oh0_13, oh0_14, oh0_15, oh0_16, oh0_17, oh0_18, oh0_19, oh0_20, oh0_21, oh0_22, oh0_23, oh0_24, oh0_25, oh0_26, oh0_27, oh0_28, oh0_29, oh0_30, oh0_31, oh0_32, oh0_33, oh0_34, oh0_35, oh0_36, oh0_37])), (h0_parts, .inl (cy 2, 2, .inl v_parts)), (h0_rates, .inl (cy 2, 14, .inl v_rates))] H → va_D A [(h0, .inr (9, [oh0_0, oh0_1, oh0_2, .ref h0_parts, .ref h0_rates, oh0_5, oh0_6, oh0_7, oh0_8, oh0_9, oh0_10, oh0_11, oh0_12, oh0_13, oh0_14, oh0_15, oh0_16, oh0_17, oh0_18, oh0_19, oh0_20, oh0_21, oh0_22, oh0_23, oh0_24, oh0_25, oh0_26, oh0_27, oh0_28, oh0_29, oh0_30, oh0_31, oh0_32, oh0_33, oh0_34, oh0_35, oh0_36, oh0_37])), (h0_parts, .inl (cy 2, 2, .inl v_parts)), (h0_rates, .inl (cy 2, 14, .inl v_rates))] → va_S A s.heap H locs → lv_has ls 4 [(2, .int e2_4)] → W p l e r9_alike s m args below meth c H locs 0 0 Q (F0 m 50 ls [])) → W p l e r9_alike s m args below meth c H locs 0 0 Q (F0 m 4 ls []) := by
    intro n
    induction n with
    | zero =>
      intro x2_4 x3_4 e2_4 H locs ls hM
      exact absurd hM (by simp [f9_alike_L4])
    | succ n ih =>
      intro x2_4 x3_4 e2_4 H locs ls hM hP hD hS hl K
      rw [f9_alike_L4] at hM
      refine lv_iload_n hx hb dX9_alike_4 rfl (lv_at hl 3 rfl) ?_
      refine lv_aload_n hx hb dX9_alike_5 rfl (lv_at hl 0 rfl) ?_
      refine va_get (D := D) (ci := 9) (v := .ref h0_parts) (C := RX9) (T := TX9) (N := 38) hx hb hts iX9 hown hK hP 0 rfl rfl 3 (by decide) k13 (fun _ h9 => h9) rfl dX9_alike_6 ?_
      refine lv_iconst (v := 0) hx hb dX9_alike_9 (by decide) ?_
      obtain ⟨h10, hM⟩ := gi_some hM
      refine va_iald hx hb hK hP 1 2 rfl rfl h10 dX9_alike_10 ?_
      refine lv_icmp_ge (tgt := 50) hx hb dX9_alike_11 (by decide) (fun c11 => ?_) (fun c11 => ?_)
      · have hM := g_pos c11 hM
        obtain rfl := si1 hM
        exact K _ _ _ hP hD hS (lv_sub hl [2] rfl)
      · have hM := g_neg c11 hM
        refine lv_iload_n hx hb dX9_alike_14 rfl (lv_at hl 2 rfl) ?_
        refine lv_iload_n hx hb dX9_alike_15 rfl (lv_at hl 3 rfl) ?_
        refine lv_iload_n hx hb dX9_alike_16 rfl (lv_at hl 1 rfl) ?_
        refine lv_icmp_eq (tgt := 41) hx hb dX9_alike_17 (by decide) (fun c17 => ?_) (fun c17 => ?_)
        · have hM := g_pos c17 hM
          refine lv_iconst (v := 0) hx hb dX9_alike_41 (by decide) ?_
          refine lv_ior hx hb dX9_alike_42 ?_
          refine lv_istore_n (lv' := [(2, .int (x2_4 ||| (0 : Int32))), (0, .ref h0), (1, .int p1), (3, .int x3_4)]) hx hb dX9_alike_43 rfl hl (by decide) rfl (fun ls hl => ?_)
          refine lv_iinc (v := x3_4 + (1 : Int32)) (lv' := [(3, .int (x3_4 + (1 : Int32))), (2, .int (x2_4 ||| (0 : Int32))), (0, .ref h0), (1, .int p1)]) hx hb dX9_alike_44 hl (k := 3) rfl rfl (by decide) rfl (fun ls hl => ?_)
          refine lv_goto (tgt := 4) hx hb dX9_alike_47 (by decide) ?_
          exact ih (x2_4 ||| (0 : Int32)) (x3_4 + (1 : Int32)) e2_4 _ _ _ hM hP hD hS (lv_sub hl [2, 3, 1, 0] rfl) K
        · have hM := g_neg c17 hM
          refine lv_aload_n hx hb dX9_alike_20 rfl (lv_at hl 0 rfl) ?_
          refine va_get (D := D) (ci := 9) (v := .ref h0_rates) (C := RX9) (T := TX9) (N := 38) hx hb hts iX9 hown hK hP 0 rfl rfl 4 (by decide) k17 (fun _ h9 => h9) rfl dX9_alike_21 ?_
          refine lv_iload_n hx hb dX9_alike_24 rfl (lv_at hl 3 rfl) ?_
          obtain ⟨h25, hM⟩ := gi_some hM
          refine va_iald hx hb hK hP 2 2 rfl rfl h25 dX9_alike_25 ?_
          refine lv_aload_n hx hb dX9_alike_26 rfl (lv_at hl 0 rfl) ?_
          refine va_get (D := D) (ci := 9) (v := .ref h0_rates) (C := RX9) (T := TX9) (N := 38) hx hb hts iX9 hown hK hP 0 rfl rfl 4 (by decide) k17 (fun _ h9 => h9) rfl dX9_alike_27 ?_
          refine lv_iload_n hx hb dX9_alike_30 rfl (lv_at hl 1 rfl) ?_
          obtain ⟨h31, hM⟩ := gi_some hM
          refine va_iald hx hb hK hP 2 2 rfl rfl h31 dX9_alike_31 ?_
          refine lv_icmp_ne (tgt := 41) hx hb dX9_alike_32 (by decide) (fun c32 => ?_) (fun c32 => ?_)
          · have hM := g_neg c32 hM
            refine lv_iconst (v := 0) hx hb dX9_alike_41 (by decide) ?_
            refine lv_ior hx hb dX9_alike_42 ?_
            refine lv_istore_n (lv' := [(2, .int (x2_4 ||| (0 : Int32))), (0, .ref h0), (1, .int p1), (3, .int x3_4)]) hx hb dX9_alike_43 rfl hl (by decide) rfl (fun ls hl => ?_)
            refine lv_iinc (v := x3_4 + (1 : Int32)) (lv' := [(3, .int (x3_4 + (1 : Int32))), (2, .int (x2_4 ||| (0 : Int32))), (0, .ref h0), (1, .int p1)]) hx hb dX9_alike_44 hl (k := 3) rfl rfl (by decide) rfl (fun ls hl => ?_)
            refine lv_goto (tgt := 4) hx hb dX9_alike_47 (by decide) ?_
            exact ih (x2_4 ||| (0 : Int32)) (x3_4 + (1 : Int32)) e2_4 _ _ _ hM hP hD hS (lv_sub hl [2, 3, 1, 0] rfl) K
          · have hM := g_pos c32 hM
            refine lv_iconst (v := 1) hx hb dX9_alike_35 (by decide) ?_
            refine lv_iload_n hx hb dX9_alike_36 rfl (lv_at hl 3 rfl) ?_
            refine lv_ishl hx hb dX9_alike_37 ?_
            refine lv_goto (tgt := 42) hx hb dX9_alike_38 (by decide) ?_
            refine lv_ior hx hb dX9_alike_42 ?_
            refine lv_istore_n (lv' := [(2, .int (x2_4 ||| ((1 : Int32) <<< (x3_4 &&& 31)))), (0, .ref h0), (1, .int p1), (3, .int x3_4)]) hx hb dX9_alike_43 rfl hl (by decide) rfl (fun ls hl => ?_)
            refine lv_iinc (v := x3_4 + (1 : Int32)) (lv' := [(3, .int (x3_4 + (1 : Int32))), (2, .int (x2_4 ||| ((1 : Int32) <<< (x3_4 &&& 31)))), (0, .ref h0), (1, .int p1)]) hx hb dX9_alike_44 hl (k := 3) rfl rfl (by decide) rfl (fun ls hl => ?_)
            refine lv_goto (tgt := 4) hx hb dX9_alike_47 (by decide) ?_
            exact ih (x2_4 ||| ((1 : Int32) <<< (x3_4 &&& 31))) (x3_4 + (1 : Int32)) e2_4 _ _ _ hM hP hD hS (lv_sub hl [2, 3, 1, 0] rfl) K
  obtain ⟨e2_4, hL4, hM⟩ := ob1_some hM
  refine L4 N (0 : Int32) (0 : Int32) e2_4 _ _ _ hL4 hP hD hS (lv_sub hl [2, 3, 1, 0] rfl) ?_
  intro H locs ls hP hD hS hl
  refine lv_iload_n hx hb dX9_alike_50 rfl (lv_at hl 0 rfl) ?_
  obtain rfl := si1 hM
  exact hret _ _ _ _ _ dX9_alike_51 rfl rfl hP hD hS

-- ===== X9_part part (II)I =====
abbrev r9_part : Room := { frames := 2, cells := 0, slots := 0, locals := 43 }
def f9_part (N : Nat) (p1 : Int32) (p2 : Int32) (v_parts : Nat → Int32) (v_rates : Nat → Int32) (v_ways : Nat → Int32) : Option Int32 :=
  ob1 (f9_isPart N p1 v_parts) fun r2 => if r2 = (0 : Int32) then (some (-1000000001 : Int32)) else (if p2 = (0 : Int32) then (gi p1 14 (some (v_rates p1.toNatClampNeg))) else (if p2 = (1 : Int32) then (gi p1 14 (some (v_ways p1.toNatClampNeg))) else (if p2 = (2 : Int32) then (ob1 (f9_alike N p1 v_parts v_rates) fun r45 => some r45) else (some (-1000000002 : Int32)))))
set_option maxHeartbeats 4000000 in
set_option maxRecDepth 100000 in
theorem c9_part (l : Launch) (D : va_G) (cy : Nat → ClassId) (N : Nat) (h0 h0_parts h0_rates h0_ways : Nat) (oh0_0 oh0_1 oh0_2 oh0_6 oh0_7 oh0_8 oh0_9 oh0_10 oh0_11 oh0_12 oh0_13 oh0_14 oh0_15 oh0_16 oh0_17 oh0_18 oh0_19 oh0_20 oh0_21 oh0_22 oh0_23 oh0_24 oh0_25 oh0_26 oh0_27 oh0_28 oh0_29 oh0_30 oh0_31 oh0_32 oh0_33 oh0_34 oh0_35 oh0_36 oh0_37 : Value) (p1 : Int32) (p2 : Int32) (v_parts : Nat → Int32) (v_rates : Nat → Int32) (v_ways : Nat → Int32) (r : Int32) (hM : f9_part N p1 p2 v_parts v_rates v_ways = some r) (sz : Nat) : CTi l yX9_part wsX9_part r9_part [.ref h0, .int p1, .int p2] D cy sz [(h0, .inr (9, [oh0_0, oh0_1, oh0_2, .ref h0_parts, .ref h0_rates, .ref h0_ways, oh0_6, oh0_7, oh0_8, oh0_9, oh0_10, oh0_11, oh0_12, oh0_13, oh0_14, oh0_15, oh0_16, oh0_17, oh0_18, oh0_19, oh0_20, oh0_21, oh0_22, oh0_23, oh0_24, oh0_25, oh0_26, oh0_27, oh0_28, oh0_29, oh0_30, oh0_31, oh0_32, oh0_33, oh0_34, oh0_35, oh0_36, oh0_37])), (h0_parts, .inl (cy 2, 2, .inl v_parts)), (h0_rates, .inl (cy 2, 14, .inl v_rates)), (h0_ways, .inl (cy 2, 14, .inl v_ways))] [(h0, .inr (9, [oh0_0, oh0_1, oh0_2, .ref h0_parts, .ref h0_rates, .ref h0_ways, oh0_6, oh0_7, oh0_8, oh0_9, oh0_10, oh0_11, oh0_12, oh0_13, oh0_14, oh0_15, oh0_16, oh0_17, oh0_18, oh0_19, oh0_20, oh0_21, oh0_22, oh0_23, oh0_24, oh0_25, oh0_26, oh0_27, oh0_28, oh0_29, oh0_30, oh0_31, oh0_32, oh0_33, oh0_34, oh0_35, oh0_36, oh0_37])), (h0_parts, .inl (cy 2, 2, .inl v_parts)), (h0_rates, .inl (cy 2, 14, .inl v_rates)), (h0_ways, .inl (cy 2, 14, .inl v_ways))] r := by
  unfold f9_part at hM
  refine ct_oi (cc := cX9_part) (maxL := 3) (ty := .int) (by decide +kernel) rfl (Nat.le_of_ble_eq_true rfl) (lv0 := [(0, .ref h0), (1, .int p1), (2, .int p2)]) rfl ?_
  intro p e s m args below meth c A Q ls hx hb hts hown hml hK hP hD hS hA hret hl
  have hown : s.vm.findClass RX9 = some m.cls := hown
  have k99 := hts (.constant RX9 99 (-1000000002)) (List.mem_of_getElem? (i := 4) rfl)
  have k20 := hts (.fieldLink RX9 20 "CaveYearsModel" "ways" "[I") (List.mem_of_getElem? (i := 3) rfl)
  have iX9 := (fun w h => (List.mem_cons_of_mem _ (List.mem_append_right _ h)) : ∀ w ∈ wsX90, w ∈ wsX9_part)
  have k17 := hts (.fieldLink RX9 17 "CaveYearsModel" "rates" "[I") (List.mem_of_getElem? (i := 2) rfl)
  have k180 := hts (.constant RX9 180 (-1000000001)) (List.mem_of_getElem? (i := 1) rfl)
  refine lv_aload_n hx hb dX9_part_0 rfl (lv_at hl 0 rfl) ?_
  refine lv_iload_n hx hb dX9_part_1 rfl (lv_at hl 1 rfl) ?_
  obtain ⟨r2, hc2, hM⟩ := ob1_some hM
  refine cl_vi (As := [.int p1]) (rest := []) (ci := 9) (q0 := 0) (wr := [(h0_rates, .inl (cy 2, 14, .inl v_rates)), (h0_ways, .inl (cy 2, 14, .inl v_ways))]) (ws2 := [(h0, .inr (9, [oh0_0, oh0_1, oh0_2, .ref h0_parts, .ref h0_rates, .ref h0_ways, oh0_6, oh0_7, oh0_8, oh0_9, oh0_10, oh0_11, oh0_12, oh0_13, oh0_14, oh0_15, oh0_16, oh0_17, oh0_18, oh0_19, oh0_20, oh0_21, oh0_22, oh0_23, oh0_24, oh0_25, oh0_26, oh0_27, oh0_28, oh0_29, oh0_30, oh0_31, oh0_32, oh0_33, oh0_34, oh0_35, oh0_36, oh0_37])), (h0_parts, .inl (cy 2, 2, .inl v_parts)), (h0_rates, .inl (cy 2, 14, .inl v_rates)), (h0_ways, .inl (cy 2, 14, .inl v_ways))]) (isC := [0, 1]) (isR := [2, 3]) (pm := [2, 3, 0, 1]) hx hb hml hown hts (c9_isPart l D cy N h0 h0_parts oh0_0 oh0_1 oh0_2 (.ref h0_rates) (.ref h0_ways) oh0_6 oh0_7 oh0_8 oh0_9 oh0_10 oh0_11 oh0_12 oh0_13 oh0_14 oh0_15 oh0_16 oh0_17 oh0_18 oh0_19 oh0_20 oh0_21 oh0_22 oh0_23 oh0_24 oh0_25 oh0_26 oh0_27 oh0_28 oh0_29 oh0_30 oh0_31 oh0_32 oh0_33 oh0_34 oh0_35 oh0_36 oh0_37 p1 v_parts r2 hc2) (cwV 1 hts gX9_part_X9_isPart rfl rfl rfl (by decide +kernel) ⟨Nat.le_of_ble_eq_true rfl, Nat.le_of_ble_eq_true rfl⟩) hK hP hD hS hA rfl rfl rfl rfl rfl (by decide) rfl rfl rfl hl.1 (Nat.le_of_ble_eq_true rfl) dX9_part_2 ⟨Nat.zero_le _, Nat.zero_le _⟩ rfl rfl (fun H locs hP hD hS => ?_)
  refine lv_if_ne (tgt := 11) hx hb dX9_part_5 (by decide) (fun c5 => ?_) (fun c5 => ?_)
  · have hM := g_neg c5 hM
    refine lv_iload_n hx hb dX9_part_11 rfl (lv_at hl 2 rfl) ?_
    refine lv_if_ne (tgt := 24) hx hb dX9_part_12 (by decide) (fun c12 => ?_) (fun c12 => ?_)
    · have hM := g_neg c12 hM
      refine lv_iload_n hx hb dX9_part_24 rfl (lv_at hl 2 rfl) ?_
      refine lv_iconst (v := 1) hx hb dX9_part_25 (by decide) ?_
      refine lv_icmp_ne (tgt := 38) hx hb dX9_part_26 (by decide) (fun c26 => ?_) (fun c26 => ?_)
      · have hM := g_neg c26 hM
        refine lv_iload_n hx hb dX9_part_38 rfl (lv_at hl 2 rfl) ?_
        refine lv_iconst (v := 2) hx hb dX9_part_39 (by decide) ?_
        refine lv_icmp_ne (tgt := 51) hx hb dX9_part_40 (by decide) (fun c40 => ?_) (fun c40 => ?_)
        · have hM := g_neg c40 hM
          refine lv_ldc (v := -1000000002) hx hb hown k99 dX9_part_51 ?_
          obtain rfl := si1 hM
          exact hret _ _ _ _ _ dX9_part_53 rfl rfl hP hD hS
        · have hM := g_pos c40 hM
          refine lv_aload_n hx hb dX9_part_43 rfl (lv_at hl 0 rfl) ?_
          refine lv_iload_n hx hb dX9_part_44 rfl (lv_at hl 1 rfl) ?_
          obtain ⟨r45, hc45, hM⟩ := ob1_some hM
          refine cl_vi (As := [.int p1]) (rest := []) (ci := 9) (q0 := 0) (wr := [(h0_ways, .inl (cy 2, 14, .inl v_ways))]) (ws2 := [(h0, .inr (9, [oh0_0, oh0_1, oh0_2, .ref h0_parts, .ref h0_rates, .ref h0_ways, oh0_6, oh0_7, oh0_8, oh0_9, oh0_10, oh0_11, oh0_12, oh0_13, oh0_14, oh0_15, oh0_16, oh0_17, oh0_18, oh0_19, oh0_20, oh0_21, oh0_22, oh0_23, oh0_24, oh0_25, oh0_26, oh0_27, oh0_28, oh0_29, oh0_30, oh0_31, oh0_32, oh0_33, oh0_34, oh0_35, oh0_36, oh0_37])), (h0_parts, .inl (cy 2, 2, .inl v_parts)), (h0_rates, .inl (cy 2, 14, .inl v_rates)), (h0_ways, .inl (cy 2, 14, .inl v_ways))]) (isC := [0, 1, 2]) (isR := [3]) (pm := [1, 2, 3, 0]) hx hb hml hown hts (c9_alike l D cy N h0 h0_parts h0_rates oh0_0 oh0_1 oh0_2 (.ref h0_ways) oh0_6 oh0_7 oh0_8 oh0_9 oh0_10 oh0_11 oh0_12 oh0_13 oh0_14 oh0_15 oh0_16 oh0_17 oh0_18 oh0_19 oh0_20 oh0_21 oh0_22 oh0_23 oh0_24 oh0_25 oh0_26 oh0_27 oh0_28 oh0_29 oh0_30 oh0_31 oh0_32 oh0_33 oh0_34 oh0_35 oh0_36 oh0_37 p1 v_parts v_rates r45 hc45) (cwV 1 hts gX9_part_X9_alike rfl rfl rfl (by decide +kernel) ⟨Nat.le_of_ble_eq_true rfl, Nat.le_of_ble_eq_true rfl⟩) hK hP hD hS hA rfl rfl rfl rfl rfl (by decide) rfl rfl rfl hl.1 (Nat.le_of_ble_eq_true rfl) dX9_part_45 ⟨Nat.zero_le _, Nat.zero_le _⟩ rfl rfl (fun H locs hP hD hS => ?_)
          refine lv_goto (tgt := 53) hx hb dX9_part_48 (by decide) ?_
          obtain rfl := si1 hM
          exact hret _ _ _ _ _ dX9_part_53 rfl rfl hP hD hS
      · have hM := g_pos c26 hM
        refine lv_aload_n hx hb dX9_part_29 rfl (lv_at hl 0 rfl) ?_
        refine va_get (D := D) (ci := 9) (v := .ref h0_ways) (C := RX9) (T := TX9) (N := 38) hx hb hts iX9 hown hK hP 0 rfl rfl 5 (by decide) k20 (fun _ h9 => h9) rfl dX9_part_30 ?_
        refine lv_iload_n hx hb dX9_part_33 rfl (lv_at hl 1 rfl) ?_
        obtain ⟨h34, hM⟩ := gi_some hM
        refine va_iald hx hb hK hP 3 2 rfl rfl h34 dX9_part_34 ?_
        refine lv_goto (tgt := 53) hx hb dX9_part_35 (by decide) ?_
        obtain rfl := si1 hM
        exact hret _ _ _ _ _ dX9_part_53 rfl rfl hP hD hS
    · have hM := g_pos c12 hM
      refine lv_aload_n hx hb dX9_part_15 rfl (lv_at hl 0 rfl) ?_
      refine va_get (D := D) (ci := 9) (v := .ref h0_rates) (C := RX9) (T := TX9) (N := 38) hx hb hts iX9 hown hK hP 0 rfl rfl 4 (by decide) k17 (fun _ h9 => h9) rfl dX9_part_16 ?_
      refine lv_iload_n hx hb dX9_part_19 rfl (lv_at hl 1 rfl) ?_
      obtain ⟨h20, hM⟩ := gi_some hM
      refine va_iald hx hb hK hP 2 2 rfl rfl h20 dX9_part_20 ?_
      refine lv_goto (tgt := 53) hx hb dX9_part_21 (by decide) ?_
      obtain rfl := si1 hM
      exact hret _ _ _ _ _ dX9_part_53 rfl rfl hP hD hS
  · have hM := g_pos c5 hM
    refine lv_ldc (v := -1000000001) hx hb hown k180 dX9_part_8 ?_
    obtain rfl := si1 hM
    exact hret _ _ _ _ _ dX9_part_10 rfl rfl hP hD hS

-- ===== X9_person person (II)I =====
abbrev r9_person : Room := { frames := 2, cells := 0, slots := 0, locals := 43 }
def f9_person (N : Nat) (p1 : Int32) (p2 : Int32) (v_persons : Nat → Int32) (v_now : Nat → Int32) : Option Int32 :=
  ob1 (f9_isPerson N p1 v_persons) fun r2 => if r2 = (0 : Int32) then (some (-1000000001 : Int32)) else (if p2 = (0 : Int32) then (gi ((1 : Int32) + p1) 60 (some (v_now ((1 : Int32) + p1).toNatClampNeg))) else (if p2 = (1 : Int32) then (gi ((7 : Int32) + p1) 60 (some (v_now ((7 : Int32) + p1).toNatClampNeg))) else (if p2 = (2 : Int32) then (ob1 (f9_isDown N p1 v_now) fun r50 => if r50 = (0 : Int32) then (some (-1 : Int32)) else (gi ((13 : Int32) + p1) 60 (some (v_now ((13 : Int32) + p1).toNatClampNeg)))) else (some (-1000000002 : Int32)))))
set_option maxHeartbeats 4000000 in
set_option maxRecDepth 100000 in
theorem c9_person (l : Launch) (D : va_G) (cy : Nat → ClassId) (N : Nat) (h0 h0_persons h0_now : Nat) (oh0_0 oh0_1 oh0_2 oh0_3 oh0_4 oh0_5 oh0_6 oh0_7 oh0_9 oh0_10 oh0_11 oh0_12 oh0_13 oh0_14 oh0_15 oh0_16 oh0_17 oh0_18 oh0_19 oh0_20 oh0_21 oh0_23 oh0_24 oh0_25 oh0_26 oh0_27 oh0_28 oh0_29 oh0_30 oh0_31 oh0_32 oh0_33 oh0_34 oh0_35 oh0_36 oh0_37 : Value) (p1 : Int32) (p2 : Int32) (v_persons : Nat → Int32) (v_now : Nat → Int32) (r : Int32) (hM : f9_person N p1 p2 v_persons v_now = some r) (sz : Nat) : CTi l yX9_person wsX9_person r9_person [.ref h0, .int p1, .int p2] D cy sz [(h0, .inr (9, [oh0_0, oh0_1, oh0_2, oh0_3, oh0_4, oh0_5, oh0_6, oh0_7, .ref h0_persons, oh0_9, oh0_10, oh0_11, oh0_12, oh0_13, oh0_14, oh0_15, oh0_16, oh0_17, oh0_18, oh0_19, oh0_20, oh0_21, .ref h0_now, oh0_23, oh0_24, oh0_25, oh0_26, oh0_27, oh0_28, oh0_29, oh0_30, oh0_31, oh0_32, oh0_33, oh0_34, oh0_35, oh0_36, oh0_37])), (h0_persons, .inl (cy 2, 2, .inl v_persons)), (h0_now, .inl (cy 2, 60, .inl v_now))] [(h0, .inr (9, [oh0_0, oh0_1, oh0_2, oh0_3, oh0_4, oh0_5, oh0_6, oh0_7, .ref h0_persons, oh0_9, oh0_10, oh0_11, oh0_12, oh0_13, oh0_14, oh0_15, oh0_16, oh0_17, oh0_18, oh0_19, oh0_20, oh0_21, .ref h0_now, oh0_23, oh0_24, oh0_25, oh0_26, oh0_27, oh0_28, oh0_29, oh0_30, oh0_31, oh0_32, oh0_33, oh0_34, oh0_35, oh0_36, oh0_37])), (h0_persons, .inl (cy 2, 2, .inl v_persons)), (h0_now, .inl (cy 2, 60, .inl v_now))] r := by
  unfold f9_person at hM
  refine ct_oi (cc := cX9_person) (maxL := 3) (ty := .int) (by decide +kernel) rfl (Nat.le_of_ble_eq_true rfl) (lv0 := [(0, .ref h0), (1, .int p1), (2, .int p2)]) rfl ?_
  intro p e s m args below meth c A Q ls hx hb hts hown hml hK hP hD hS hA hret hl
  have hown : s.vm.findClass RX9 = some m.cls := hown
  have k99 := hts (.constant RX9 99 (-1000000002)) (List.mem_of_getElem? (i := 3) rfl)
  have k50 := hts (.fieldLink RX9 50 "CaveYearsModel" "now" "[I") (List.mem_of_getElem? (i := 2) rfl)
  have iX9 := (fun w h => (List.mem_cons_of_mem _ (List.mem_append_right _ h)) : ∀ w ∈ wsX90, w ∈ wsX9_person)
  have k180 := hts (.constant RX9 180 (-1000000001)) (List.mem_of_getElem? (i := 1) rfl)
  refine lv_aload_n hx hb dX9_person_0 rfl (lv_at hl 0 rfl) ?_
  refine lv_iload_n hx hb dX9_person_1 rfl (lv_at hl 1 rfl) ?_
  obtain ⟨r2, hc2, hM⟩ := ob1_some hM
  refine cl_vi (As := [.int p1]) (rest := []) (ci := 9) (q0 := 0) (wr := [(h0_now, .inl (cy 2, 60, .inl v_now))]) (ws2 := [(h0, .inr (9, [oh0_0, oh0_1, oh0_2, oh0_3, oh0_4, oh0_5, oh0_6, oh0_7, .ref h0_persons, oh0_9, oh0_10, oh0_11, oh0_12, oh0_13, oh0_14, oh0_15, oh0_16, oh0_17, oh0_18, oh0_19, oh0_20, oh0_21, .ref h0_now, oh0_23, oh0_24, oh0_25, oh0_26, oh0_27, oh0_28, oh0_29, oh0_30, oh0_31, oh0_32, oh0_33, oh0_34, oh0_35, oh0_36, oh0_37])), (h0_persons, .inl (cy 2, 2, .inl v_persons)), (h0_now, .inl (cy 2, 60, .inl v_now))]) (isC := [0, 1]) (isR := [2]) (pm := [1, 2, 0]) hx hb hml hown hts (c9_isPerson l D cy N h0 h0_persons oh0_0 oh0_1 oh0_2 oh0_3 oh0_4 oh0_5 oh0_6 oh0_7 oh0_9 oh0_10 oh0_11 oh0_12 oh0_13 oh0_14 oh0_15 oh0_16 oh0_17 oh0_18 oh0_19 oh0_20 oh0_21 (.ref h0_now) oh0_23 oh0_24 oh0_25 oh0_26 oh0_27 oh0_28 oh0_29 oh0_30 oh0_31 oh0_32 oh0_33 oh0_34 oh0_35 oh0_36 oh0_37 p1 v_persons r2 hc2) (cwV 1 hts gX9_person_X9_isPerson rfl rfl rfl (by decide +kernel) ⟨Nat.le_of_ble_eq_true rfl, Nat.le_of_ble_eq_true rfl⟩) hK hP hD hS hA rfl rfl rfl rfl rfl (by decide) rfl rfl rfl hl.1 (Nat.le_of_ble_eq_true rfl) dX9_person_2 ⟨Nat.zero_le _, Nat.zero_le _⟩ rfl rfl (fun H locs hP hD hS => ?_)
  refine lv_if_ne (tgt := 11) hx hb dX9_person_5 (by decide) (fun c5 => ?_) (fun c5 => ?_)
  · have hM := g_neg c5 hM
    refine lv_iload_n hx hb dX9_person_11 rfl (lv_at hl 2 rfl) ?_
    refine lv_if_ne (tgt := 26) hx hb dX9_person_12 (by decide) (fun c12 => ?_) (fun c12 => ?_)
    · have hM := g_neg c12 hM
      refine lv_iload_n hx hb dX9_person_26 rfl (lv_at hl 2 rfl) ?_
      refine lv_iconst (v := 1) hx hb dX9_person_27 (by decide) ?_
      refine lv_icmp_ne (tgt := 43) hx hb dX9_person_28 (by decide) (fun c28 => ?_) (fun c28 => ?_)
      · have hM := g_neg c28 hM
        refine lv_iload_n hx hb dX9_person_43 rfl (lv_at hl 2 rfl) ?_
        refine lv_iconst (v := 2) hx hb dX9_person_44 (by decide) ?_
        refine lv_icmp_ne (tgt := 72) hx hb dX9_person_45 (by decide) (fun c45 => ?_) (fun c45 => ?_)
        · have hM := g_neg c45 hM
          refine lv_ldc (v := -1000000002) hx hb hown k99 dX9_person_72 ?_
          obtain rfl := si1 hM
          exact hret _ _ _ _ _ dX9_person_74 rfl rfl hP hD hS
        · have hM := g_pos c45 hM
          refine lv_aload_n hx hb dX9_person_48 rfl (lv_at hl 0 rfl) ?_
          refine lv_iload_n hx hb dX9_person_49 rfl (lv_at hl 1 rfl) ?_
          obtain ⟨r50, hc50, hM⟩ := ob1_some hM
          refine cl_vi (As := [.int p1]) (rest := []) (ci := 9) (q0 := 0) (wr := [(h0_persons, .inl (cy 2, 2, .inl v_persons))]) (ws2 := [(h0, .inr (9, [oh0_0, oh0_1, oh0_2, oh0_3, oh0_4, oh0_5, oh0_6, oh0_7, .ref h0_persons, oh0_9, oh0_10, oh0_11, oh0_12, oh0_13, oh0_14, oh0_15, oh0_16, oh0_17, oh0_18, oh0_19, oh0_20, oh0_21, .ref h0_now, oh0_23, oh0_24, oh0_25, oh0_26, oh0_27, oh0_28, oh0_29, oh0_30, oh0_31, oh0_32, oh0_33, oh0_34, oh0_35, oh0_36, oh0_37])), (h0_persons, .inl (cy 2, 2, .inl v_persons)), (h0_now, .inl (cy 2, 60, .inl v_now))]) (isC := [0, 2]) (isR := [1]) (pm := [1, 0, 2]) hx hb hml hown hts (c9_isDown l D cy N h0 h0_now oh0_0 oh0_1 oh0_2 oh0_3 oh0_4 oh0_5 oh0_6 oh0_7 (.ref h0_persons) oh0_9 oh0_10 oh0_11 oh0_12 oh0_13 oh0_14 oh0_15 oh0_16 oh0_17 oh0_18 oh0_19 oh0_20 oh0_21 oh0_23 oh0_24 oh0_25 oh0_26 oh0_27 oh0_28 oh0_29 oh0_30 oh0_31 oh0_32 oh0_33 oh0_34 oh0_35 oh0_36 oh0_37 p1 v_now r50 hc50) (cwV 1 hts gX9_person_X9_isDown rfl rfl rfl (by decide +kernel) ⟨Nat.le_of_ble_eq_true rfl, Nat.le_of_ble_eq_true rfl⟩) hK hP hD hS hA rfl rfl rfl rfl rfl (by decide) rfl rfl rfl hl.1 (Nat.le_of_ble_eq_true rfl) dX9_person_50 ⟨Nat.zero_le _, Nat.zero_le _⟩ rfl rfl (fun H locs hP hD hS => ?_)
          refine lv_if_eq (tgt := 68) hx hb dX9_person_53 (by decide) (fun c53 => ?_) (fun c53 => ?_)
          · have hM := g_pos c53 hM
            refine lv_iconst (v := -1) hx hb dX9_person_68 (by decide) ?_
            refine lv_goto (tgt := 74) hx hb dX9_person_69 (by decide) ?_
            obtain rfl := si1 hM
            exact hret _ _ _ _ _ dX9_person_74 rfl rfl hP hD hS
          · have hM := g_neg c53 hM
            refine lv_aload_n hx hb dX9_person_56 rfl (lv_at hl 0 rfl) ?_
            refine va_get (D := D) (ci := 9) (v := .ref h0_now) (C := RX9) (T := TX9) (N := 38) hx hb hts iX9 hown hK hP 0 rfl rfl 22 (by decide) k50 (fun _ h9 => h9) rfl dX9_person_57 ?_
            refine lv_bipush (v := 13) hx hb dX9_person_60 (by decide) ?_
            refine lv_iload_n hx hb dX9_person_62 rfl (lv_at hl 1 rfl) ?_
            refine lv_iadd hx hb dX9_person_63 ?_
            obtain ⟨h64, hM⟩ := gi_some hM
            refine va_iald hx hb hK hP 2 2 rfl rfl h64 dX9_person_64 ?_
            refine lv_goto (tgt := 74) hx hb dX9_person_65 (by decide) ?_
            obtain rfl := si1 hM
            exact hret _ _ _ _ _ dX9_person_74 rfl rfl hP hD hS
      · have hM := g_pos c28 hM
        refine lv_aload_n hx hb dX9_person_31 rfl (lv_at hl 0 rfl) ?_
        refine va_get (D := D) (ci := 9) (v := .ref h0_now) (C := RX9) (T := TX9) (N := 38) hx hb hts iX9 hown hK hP 0 rfl rfl 22 (by decide) k50 (fun _ h9 => h9) rfl dX9_person_32 ?_
        refine lv_bipush (v := 7) hx hb dX9_person_35 (by decide) ?_
        refine lv_iload_n hx hb dX9_person_37 rfl (lv_at hl 1 rfl) ?_
        refine lv_iadd hx hb dX9_person_38 ?_
        obtain ⟨h39, hM⟩ := gi_some hM
        refine va_iald hx hb hK hP 2 2 rfl rfl h39 dX9_person_39 ?_
        refine lv_goto (tgt := 74) hx hb dX9_person_40 (by decide) ?_
        obtain rfl := si1 hM
        exact hret _ _ _ _ _ dX9_person_74 rfl rfl hP hD hS
    · have hM := g_pos c12 hM
      refine lv_aload_n hx hb dX9_person_15 rfl (lv_at hl 0 rfl) ?_
      refine va_get (D := D) (ci := 9) (v := .ref h0_now) (C := RX9) (T := TX9) (N := 38) hx hb hts iX9 hown hK hP 0 rfl rfl 22 (by decide) k50 (fun _ h9 => h9) rfl dX9_person_16 ?_
      refine lv_iconst (v := 1) hx hb dX9_person_19 (by decide) ?_
      refine lv_iload_n hx hb dX9_person_20 rfl (lv_at hl 1 rfl) ?_
      refine lv_iadd hx hb dX9_person_21 ?_
      obtain ⟨h22, hM⟩ := gi_some hM
      refine va_iald hx hb hK hP 2 2 rfl rfl h22 dX9_person_22 ?_
      refine lv_goto (tgt := 74) hx hb dX9_person_23 (by decide) ?_
      obtain rfl := si1 hM
      exact hret _ _ _ _ _ dX9_person_74 rfl rfl hP hD hS
  · have hM := g_pos c5 hM
    refine lv_ldc (v := -1000000001) hx hb hown k180 dX9_person_8 ?_
    obtain rfl := si1 hM
    exact hret _ _ _ _ _ dX9_person_10 rfl rfl hP hD hS

-- ===== X9_spend spend (I)I =====
abbrev r9_spend : Room := { frames := 2, cells := 0, slots := 0, locals := 43 }
def f9_spend (N : Nat) (p1 : Int32) (v_stayMany : Int32) (v_parts : Nat → Int32) (v_stay : Nat → Int32) : Option (Int32 × Int32 × (Nat → Int32)) :=
  ob1 (f9_isPart N p1 v_parts) fun r2 => if r2 = (0 : Int32) then (some ((-1000000001 : Int32), v_stayMany, v_stay)) else (if v_stayMany = (40 : Int32) then (some ((-1000000004 : Int32), v_stayMany, v_stay)) else (gi v_stayMany 40 (some ((v_stayMany + (1 : Int32)), (v_stayMany + (1 : Int32)), (upd v_stay v_stayMany.toNatClampNeg p1)))))
set_option maxHeartbeats 4000000 in
set_option maxRecDepth 100000 in
theorem c9_spend (l : Launch) (D : va_G) (cy : Nat → ClassId) (N : Nat) (h0 h0_parts h0_stay : Nat) (oh0_0 oh0_1 oh0_2 oh0_4 oh0_5 oh0_6 oh0_7 oh0_8 oh0_9 oh0_10 oh0_11 oh0_12 oh0_13 oh0_14 oh0_15 oh0_16 oh0_17 oh0_18 oh0_19 oh0_20 oh0_21 oh0_22 oh0_23 oh0_26 oh0_27 oh0_28 oh0_29 oh0_30 oh0_31 oh0_32 oh0_33 oh0_34 oh0_35 oh0_36 oh0_37 : Value) (p1 : Int32) (v_stayMany : Int32) (v_parts : Nat → Int32) (v_stay : Nat → Int32) (r : Int32) (nv_stayMany : Int32) (nv_stay : Nat → Int32) (hM : f9_spend N p1 v_stayMany v_parts v_stay = some (r, nv_stayMany, nv_stay)) (sz : Nat) : CTi l yX9_spend wsX9_spend r9_spend [.ref h0, .int p1] D cy sz [(h0, .inr (9, [oh0_0, oh0_1, oh0_2, .ref h0_parts, oh0_4, oh0_5, oh0_6, oh0_7, oh0_8, oh0_9, oh0_10, oh0_11, oh0_12, oh0_13, oh0_14, oh0_15, oh0_16, oh0_17, oh0_18, oh0_19, oh0_20, oh0_21, oh0_22, oh0_23, .ref h0_stay, .int v_stayMany, oh0_26, oh0_27, oh0_28, oh0_29, oh0_30, oh0_31, oh0_32, oh0_33, oh0_34, oh0_35, oh0_36, oh0_37])), (h0_parts, .inl (cy 2, 2, .inl v_parts)), (h0_stay, .inl (cy 2, 40, .inl v_stay))] [(h0, .inr (9, [oh0_0, oh0_1, oh0_2, .ref h0_parts, oh0_4, oh0_5, oh0_6, oh0_7, oh0_8, oh0_9, oh0_10, oh0_11, oh0_12, oh0_13, oh0_14, oh0_15, oh0_16, oh0_17, oh0_18, oh0_19, oh0_20, oh0_21, oh0_22, oh0_23, .ref h0_stay, .int nv_stayMany, oh0_26, oh0_27, oh0_28, oh0_29, oh0_30, oh0_31, oh0_32, oh0_33, oh0_34, oh0_35, oh0_36, oh0_37])), (h0_parts, .inl (cy 2, 2, .inl v_parts)), (h0_stay, .inl (cy 2, 40, .inl nv_stay))] r := by
  unfold f9_spend at hM
  refine ct_oi (cc := cX9_spend) (maxL := 2) (ty := .int) (by decide +kernel) rfl (Nat.le_of_ble_eq_true rfl) (lv0 := [(0, .ref h0), (1, .int p1)]) rfl ?_
  intro p e s m args below meth c A Q ls hx hb hts hown hml hK hP hD hS hA hret hl
  have hown : s.vm.findClass RX9 = some m.cls := hown
  have k159 := hts (.fieldLink RX9 159 "CaveYearsModel" "stayMany" "I") (List.mem_of_getElem? (i := 2) rfl)
  have iX9 := (fun w h => (List.mem_cons_of_mem _ (List.mem_append_right _ h)) : ∀ w ∈ wsX90, w ∈ wsX9_spend)
  have k57 := hts (.fieldLink RX9 57 "CaveYearsModel" "stay" "[I") (List.mem_of_getElem? (i := 4) rfl)
  have k103 := hts (.constant RX9 103 (-1000000004)) (List.mem_of_getElem? (i := 3) rfl)
  have k180 := hts (.constant RX9 180 (-1000000001)) (List.mem_of_getElem? (i := 1) rfl)
  refine lv_aload_n hx hb dX9_spend_0 rfl (lv_at hl 0 rfl) ?_
  refine lv_iload_n hx hb dX9_spend_1 rfl (lv_at hl 1 rfl) ?_
  obtain ⟨r2, hc2, hM⟩ := ob1_some hM
  refine cl_vi (As := [.int p1]) (rest := []) (ci := 9) (q0 := 0) (wr := [(h0_stay, .inl (cy 2, 40, .inl v_stay))]) (ws2 := [(h0, .inr (9, [oh0_0, oh0_1, oh0_2, .ref h0_parts, oh0_4, oh0_5, oh0_6, oh0_7, oh0_8, oh0_9, oh0_10, oh0_11, oh0_12, oh0_13, oh0_14, oh0_15, oh0_16, oh0_17, oh0_18, oh0_19, oh0_20, oh0_21, oh0_22, oh0_23, .ref h0_stay, .int v_stayMany, oh0_26, oh0_27, oh0_28, oh0_29, oh0_30, oh0_31, oh0_32, oh0_33, oh0_34, oh0_35, oh0_36, oh0_37])), (h0_parts, .inl (cy 2, 2, .inl v_parts)), (h0_stay, .inl (cy 2, 40, .inl v_stay))]) (isC := [0, 1]) (isR := [2]) (pm := [1, 2, 0]) hx hb hml hown hts (c9_isPart l D cy N h0 h0_parts oh0_0 oh0_1 oh0_2 oh0_4 oh0_5 oh0_6 oh0_7 oh0_8 oh0_9 oh0_10 oh0_11 oh0_12 oh0_13 oh0_14 oh0_15 oh0_16 oh0_17 oh0_18 oh0_19 oh0_20 oh0_21 oh0_22 oh0_23 (.ref h0_stay) (.int v_stayMany) oh0_26 oh0_27 oh0_28 oh0_29 oh0_30 oh0_31 oh0_32 oh0_33 oh0_34 oh0_35 oh0_36 oh0_37 p1 v_parts r2 hc2) (cwV 1 hts gX9_spend_X9_isPart rfl rfl rfl (by decide +kernel) ⟨Nat.le_of_ble_eq_true rfl, Nat.le_of_ble_eq_true rfl⟩) hK hP hD hS hA rfl rfl rfl rfl rfl (by decide) rfl rfl rfl hl.1 (Nat.le_of_ble_eq_true rfl) dX9_spend_2 ⟨Nat.zero_le _, Nat.zero_le _⟩ rfl rfl (fun H locs hP hD hS => ?_)
  refine lv_if_ne (tgt := 11) hx hb dX9_spend_5 (by decide) (fun c5 => ?_) (fun c5 => ?_)
  · have hM := g_neg c5 hM
    refine lv_aload_n hx hb dX9_spend_11 rfl (lv_at hl 0 rfl) ?_
    refine va_get (D := D) (ci := 9) (v := .int v_stayMany) (C := RX9) (T := TX9) (N := 38) hx hb hts iX9 hown hK hP 0 rfl rfl 25 (by decide) k159 (fun _ h9 => h9) rfl dX9_spend_12 ?_
    refine lv_bipush (v := 40) hx hb dX9_spend_15 (by decide) ?_
    refine lv_icmp_ne (tgt := 23) hx hb dX9_spend_17 (by decide) (fun c17 => ?_) (fun c17 => ?_)
    · have hM := g_neg c17 hM
      refine lv_aload_n hx hb dX9_spend_23 rfl (lv_at hl 0 rfl) ?_
      refine va_get (D := D) (ci := 9) (v := .ref h0_stay) (C := RX9) (T := TX9) (N := 38) hx hb hts iX9 hown hK hP 0 rfl rfl 24 (by decide) k57 (fun _ h9 => h9) rfl dX9_spend_24 ?_
      refine lv_aload_n hx hb dX9_spend_27 rfl (lv_at hl 0 rfl) ?_
      refine va_get (D := D) (ci := 9) (v := .int v_stayMany) (C := RX9) (T := TX9) (N := 38) hx hb hts iX9 hown hK hP 0 rfl rfl 25 (by decide) k159 (fun _ h9 => h9) rfl dX9_spend_28 ?_
      refine lv_iload_n hx hb dX9_spend_31 rfl (lv_at hl 1 rfl) ?_
      obtain ⟨h32, hM⟩ := gi_some hM
      refine va_iast hx hb hK hP hD hS 2 2 rfl rfl h32 dX9_spend_32 (fun H locs hP hD hS => ?_)
      have hP : va_P D vwCl [(h0, .inr (9, [oh0_0, oh0_1, oh0_2, .ref h0_parts, oh0_4, oh0_5, oh0_6, oh0_7, oh0_8, oh0_9, oh0_10, oh0_11, oh0_12, oh0_13, oh0_14, oh0_15, oh0_16, oh0_17, oh0_18, oh0_19, oh0_20, oh0_21, oh0_22, oh0_23, .ref h0_stay, .int v_stayMany, oh0_26, oh0_27, oh0_28, oh0_29, oh0_30, oh0_31, oh0_32, oh0_33, oh0_34, oh0_35, oh0_36, oh0_37])), (h0_parts, .inl (cy 2, 2, .inl v_parts)), (h0_stay, .inl (cy 2, 40, .inl (upd v_stay v_stayMany.toNatClampNeg p1)))] H := hP
      have hD : va_D A [(h0, .inr (9, [oh0_0, oh0_1, oh0_2, .ref h0_parts, oh0_4, oh0_5, oh0_6, oh0_7, oh0_8, oh0_9, oh0_10, oh0_11, oh0_12, oh0_13, oh0_14, oh0_15, oh0_16, oh0_17, oh0_18, oh0_19, oh0_20, oh0_21, oh0_22, oh0_23, .ref h0_stay, .int v_stayMany, oh0_26, oh0_27, oh0_28, oh0_29, oh0_30, oh0_31, oh0_32, oh0_33, oh0_34, oh0_35, oh0_36, oh0_37])), (h0_parts, .inl (cy 2, 2, .inl v_parts)), (h0_stay, .inl (cy 2, 40, .inl (upd v_stay v_stayMany.toNatClampNeg p1)))] := hD
      refine lv_aload_n hx hb dX9_spend_33 rfl (lv_at hl 0 rfl) ?_
      refine lv_dup hx hb dX9_spend_34 rfl ?_
      refine va_get (D := D) (ci := 9) (v := .int v_stayMany) (C := RX9) (T := TX9) (N := 38) hx hb hts iX9 hown hK hP 0 rfl rfl 25 (by decide) k159 (fun _ h9 => h9) rfl dX9_spend_35 ?_
      refine lv_iconst (v := 1) hx hb dX9_spend_38 (by decide) ?_
      refine lv_iadd hx hb dX9_spend_39 ?_
      refine va_put (D := D) (ci := 9) (v := .int (v_stayMany + (1 : Int32))) (ty := .int) (C := RX9) (T := TX9) (N := 38) hx hb hts iX9 tyX9 tyX9_ok nmX9 hown hK hP hD hS 0 rfl rfl 25 (by decide) k159 (fun _ h9 => h9) rfl (by decide +kernel) rfl rfl (Nat.le_of_ble_eq_true rfl) dX9_spend_40 (fun H locs hP hD hS => ?_)
      have hP : va_P D vwCl [(h0, .inr (9, [oh0_0, oh0_1, oh0_2, .ref h0_parts, oh0_4, oh0_5, oh0_6, oh0_7, oh0_8, oh0_9, oh0_10, oh0_11, oh0_12, oh0_13, oh0_14, oh0_15, oh0_16, oh0_17, oh0_18, oh0_19, oh0_20, oh0_21, oh0_22, oh0_23, .ref h0_stay, .int (v_stayMany + (1 : Int32)), oh0_26, oh0_27, oh0_28, oh0_29, oh0_30, oh0_31, oh0_32, oh0_33, oh0_34, oh0_35, oh0_36, oh0_37])), (h0_parts, .inl (cy 2, 2, .inl v_parts)), (h0_stay, .inl (cy 2, 40, .inl (upd v_stay v_stayMany.toNatClampNeg p1)))] H := hP
      have hD : va_D A [(h0, .inr (9, [oh0_0, oh0_1, oh0_2, .ref h0_parts, oh0_4, oh0_5, oh0_6, oh0_7, oh0_8, oh0_9, oh0_10, oh0_11, oh0_12, oh0_13, oh0_14, oh0_15, oh0_16, oh0_17, oh0_18, oh0_19, oh0_20, oh0_21, oh0_22, oh0_23, .ref h0_stay, .int (v_stayMany + (1 : Int32)), oh0_26, oh0_27, oh0_28, oh0_29, oh0_30, oh0_31, oh0_32, oh0_33, oh0_34, oh0_35, oh0_36, oh0_37])), (h0_parts, .inl (cy 2, 2, .inl v_parts)), (h0_stay, .inl (cy 2, 40, .inl (upd v_stay v_stayMany.toNatClampNeg p1)))] := hD
      refine lv_aload_n hx hb dX9_spend_43 rfl (lv_at hl 0 rfl) ?_
      refine va_get (D := D) (ci := 9) (v := .int (v_stayMany + (1 : Int32))) (C := RX9) (T := TX9) (N := 38) hx hb hts iX9 hown hK hP 0 rfl rfl 25 (by decide) k159 (fun _ h9 => h9) rfl dX9_spend_44 ?_
      obtain ⟨rfl, rfl, rfl⟩ := si3 hM
      exact hret _ _ _ _ _ dX9_spend_47 rfl rfl hP hD hS
    · have hM := g_pos c17 hM
      refine lv_ldc (v := -1000000004) hx hb hown k103 dX9_spend_20 ?_
      obtain ⟨rfl, rfl, rfl⟩ := si3 hM
      exact hret _ _ _ _ _ dX9_spend_22 rfl rfl hP hD hS
  · have hM := g_pos c5 hM
    refine lv_ldc (v := -1000000001) hx hb hown k180 dX9_spend_8 ?_
    obtain ⟨rfl, rfl, rfl⟩ := si3 hM
    exact hret _ _ _ _ _ dX9_spend_10 rfl rfl hP hD hS

-- ===== X9_forget forget ()I =====
abbrev r9_forget : Room := { frames := 0, cells := 0, slots := 0, locals := 0 }
def f9_forget (N : Nat) (v_stayMany : Int32) : Option (Int32 × Int32) :=
  some (v_stayMany, (0 : Int32))
set_option maxHeartbeats 4000000 in
set_option maxRecDepth 100000 in
theorem c9_forget (l : Launch) (D : va_G) (cy : Nat → ClassId) (N : Nat) (h0 : Nat) (oh0_0 oh0_1 oh0_2 oh0_3 oh0_4 oh0_5 oh0_6 oh0_7 oh0_8 oh0_9 oh0_10 oh0_11 oh0_12 oh0_13 oh0_14 oh0_15 oh0_16 oh0_17 oh0_18 oh0_19 oh0_20 oh0_21 oh0_22 oh0_23 oh0_24 oh0_26 oh0_27 oh0_28 oh0_29 oh0_30 oh0_31 oh0_32 oh0_33 oh0_34 oh0_35 oh0_36 oh0_37 : Value) (v_stayMany : Int32) (r : Int32) (nv_stayMany : Int32) (hM : f9_forget N v_stayMany = some (r, nv_stayMany)) (sz : Nat) : CTi l yX9_forget wsX9_forget r9_forget [.ref h0] D cy sz [(h0, .inr (9, [oh0_0, oh0_1, oh0_2, oh0_3, oh0_4, oh0_5, oh0_6, oh0_7, oh0_8, oh0_9, oh0_10, oh0_11, oh0_12, oh0_13, oh0_14, oh0_15, oh0_16, oh0_17, oh0_18, oh0_19, oh0_20, oh0_21, oh0_22, oh0_23, oh0_24, .int v_stayMany, oh0_26, oh0_27, oh0_28, oh0_29, oh0_30, oh0_31, oh0_32, oh0_33, oh0_34, oh0_35, oh0_36, oh0_37]))] [(h0, .inr (9, [oh0_0, oh0_1, oh0_2, oh0_3, oh0_4, oh0_5, oh0_6, oh0_7, oh0_8, oh0_9, oh0_10, oh0_11, oh0_12, oh0_13, oh0_14, oh0_15, oh0_16, oh0_17, oh0_18, oh0_19, oh0_20, oh0_21, oh0_22, oh0_23, oh0_24, .int nv_stayMany, oh0_26, oh0_27, oh0_28, oh0_29, oh0_30, oh0_31, oh0_32, oh0_33, oh0_34, oh0_35, oh0_36, oh0_37]))] r := by
  unfold f9_forget at hM
  refine ct_oi (cc := cX9_forget) (maxL := 2) (ty := .int) (by decide +kernel) rfl (Nat.le_of_ble_eq_true rfl) (lv0 := [(0, .ref h0)]) rfl ?_
  intro p e s m args below meth c A Q ls hx hb hts hown hml hK hP hD hS hA hret hl
  have hown : s.vm.findClass RX9 = some m.cls := hown
  have k159 := hts (.fieldLink RX9 159 "CaveYearsModel" "stayMany" "I") (List.mem_of_getElem? (i := 1) rfl)
  have iX9 := (fun w h => (List.mem_cons_of_mem _ (List.mem_append_right _ h)) : ∀ w ∈ wsX90, w ∈ wsX9_forget)
  refine lv_aload_n hx hb dX9_forget_0 rfl (lv_at hl 0 rfl) ?_
  refine va_get (D := D) (ci := 9) (v := .int v_stayMany) (C := RX9) (T := TX9) (N := 38) hx hb hts iX9 hown hK hP 0 rfl rfl 25 (by decide) k159 (fun _ h9 => h9) rfl dX9_forget_1 ?_
  refine lv_istore_n (lv' := [(1, .int v_stayMany), (0, .ref h0)]) hx hb dX9_forget_4 rfl hl (by decide) rfl (fun ls hl => ?_)
  refine lv_aload_n hx hb dX9_forget_5 rfl (lv_at hl 1 rfl) ?_
  refine lv_iconst (v := 0) hx hb dX9_forget_6 (by decide) ?_
  refine va_put (D := D) (ci := 9) (v := .int (0 : Int32)) (ty := .int) (C := RX9) (T := TX9) (N := 38) hx hb hts iX9 tyX9 tyX9_ok nmX9 hown hK hP hD hS 0 rfl rfl 25 (by decide) k159 (fun _ h9 => h9) rfl (by decide +kernel) rfl rfl (Nat.le_of_ble_eq_true rfl) dX9_forget_7 (fun H locs hP hD hS => ?_)
  have hP : va_P D vwCl [(h0, .inr (9, [oh0_0, oh0_1, oh0_2, oh0_3, oh0_4, oh0_5, oh0_6, oh0_7, oh0_8, oh0_9, oh0_10, oh0_11, oh0_12, oh0_13, oh0_14, oh0_15, oh0_16, oh0_17, oh0_18, oh0_19, oh0_20, oh0_21, oh0_22, oh0_23, oh0_24, .int (0 : Int32), oh0_26, oh0_27, oh0_28, oh0_29, oh0_30, oh0_31, oh0_32, oh0_33, oh0_34, oh0_35, oh0_36, oh0_37]))] H := hP
  have hD : va_D A [(h0, .inr (9, [oh0_0, oh0_1, oh0_2, oh0_3, oh0_4, oh0_5, oh0_6, oh0_7, oh0_8, oh0_9, oh0_10, oh0_11, oh0_12, oh0_13, oh0_14, oh0_15, oh0_16, oh0_17, oh0_18, oh0_19, oh0_20, oh0_21, oh0_22, oh0_23, oh0_24, .int (0 : Int32), oh0_26, oh0_27, oh0_28, oh0_29, oh0_30, oh0_31, oh0_32, oh0_33, oh0_34, oh0_35, oh0_36, oh0_37]))] := hD
  refine lv_iload_n hx hb dX9_forget_10 rfl (lv_at hl 0 rfl) ?_
  obtain ⟨rfl, rfl⟩ := si2 hM
  exact hret _ _ _ _ _ dX9_forget_11 rfl rfl hP hD hS

-- ===== X9_isStep isStep (II)Z =====
abbrev r9_isStep : Room := { frames := 0, cells := 0, slots := 0, locals := 0 }
def f9_isStep (N : Nat) (p1 : Int32) (p2 : Int32) (v_ways : Nat → Int32) : Option Int32 :=
  if p1 = p2 then (some (1 : Int32)) else (gi p1 14 (if (((v_ways p1.toNatClampNeg) >>> (p2 &&& 31)) &&& (1 : Int32)) = (1 : Int32) then (some (1 : Int32)) else (some (0 : Int32))))
set_option maxHeartbeats 4000000 in
set_option maxRecDepth 100000 in
theorem c9_isStep (l : Launch) (D : va_G) (cy : Nat → ClassId) (N : Nat) (h0 h0_ways : Nat) (oh0_0 oh0_1 oh0_2 oh0_3 oh0_4 oh0_6 oh0_7 oh0_8 oh0_9 oh0_10 oh0_11 oh0_12 oh0_13 oh0_14 oh0_15 oh0_16 oh0_17 oh0_18 oh0_19 oh0_20 oh0_21 oh0_22 oh0_23 oh0_24 oh0_25 oh0_26 oh0_27 oh0_28 oh0_29 oh0_30 oh0_31 oh0_32 oh0_33 oh0_34 oh0_35 oh0_36 oh0_37 : Value) (p1 : Int32) (p2 : Int32) (v_ways : Nat → Int32) (r : Int32) (hM : f9_isStep N p1 p2 v_ways = some r) (sz : Nat) : CTi l yX9_isStep wsX9_isStep r9_isStep [.ref h0, .int p1, .int p2] D cy sz [(h0, .inr (9, [oh0_0, oh0_1, oh0_2, oh0_3, oh0_4, .ref h0_ways, oh0_6, oh0_7, oh0_8, oh0_9, oh0_10, oh0_11, oh0_12, oh0_13, oh0_14, oh0_15, oh0_16, oh0_17, oh0_18, oh0_19, oh0_20, oh0_21, oh0_22, oh0_23, oh0_24, oh0_25, oh0_26, oh0_27, oh0_28, oh0_29, oh0_30, oh0_31, oh0_32, oh0_33, oh0_34, oh0_35, oh0_36, oh0_37])), (h0_ways, .inl (cy 2, 14, .inl v_ways))] [(h0, .inr (9, [oh0_0, oh0_1, oh0_2, oh0_3, oh0_4, .ref h0_ways, oh0_6, oh0_7, oh0_8, oh0_9, oh0_10, oh0_11, oh0_12, oh0_13, oh0_14, oh0_15, oh0_16, oh0_17, oh0_18, oh0_19, oh0_20, oh0_21, oh0_22, oh0_23, oh0_24, oh0_25, oh0_26, oh0_27, oh0_28, oh0_29, oh0_30, oh0_31, oh0_32, oh0_33, oh0_34, oh0_35, oh0_36, oh0_37])), (h0_ways, .inl (cy 2, 14, .inl v_ways))] r := by
  unfold f9_isStep at hM
  refine ct_oi (cc := cX9_isStep) (maxL := 3) (ty := .boolean) (by decide +kernel) rfl (Nat.le_of_ble_eq_true rfl) (lv0 := [(0, .ref h0), (1, .int p1), (2, .int p2)]) rfl ?_
  intro p e s m args below meth c A Q ls hx hb hts hown hml hK hP hD hS hA hret hl
  have hown : s.vm.findClass RX9 = some m.cls := hown
  have k20 := hts (.fieldLink RX9 20 "CaveYearsModel" "ways" "[I") (List.mem_of_getElem? (i := 1) rfl)
  have iX9 := (fun w h => (List.mem_cons_of_mem _ (List.mem_append_right _ h)) : ∀ w ∈ wsX90, w ∈ wsX9_isStep)
  refine lv_iload_n hx hb dX9_isStep_0 rfl (lv_at hl 1 rfl) ?_
  refine lv_iload_n hx hb dX9_isStep_1 rfl (lv_at hl 2 rfl) ?_
  refine lv_icmp_eq (tgt := 19) hx hb dX9_isStep_2 (by decide) (fun c2 => ?_) (fun c2 => ?_)
  · have hM := g_pos c2 hM
    refine lv_iconst (v := 1) hx hb dX9_isStep_19 (by decide) ?_
    refine lv_goto (tgt := 24) hx hb dX9_isStep_20 (by decide) ?_
    obtain rfl := si1 hM
    exact hret _ _ _ _ _ dX9_isStep_24 rfl rfl hP hD hS
  · have hM := g_neg c2 hM
    refine lv_aload_n hx hb dX9_isStep_5 rfl (lv_at hl 0 rfl) ?_
    refine va_get (D := D) (ci := 9) (v := .ref h0_ways) (C := RX9) (T := TX9) (N := 38) hx hb hts iX9 hown hK hP 0 rfl rfl 5 (by decide) k20 (fun _ h9 => h9) rfl dX9_isStep_6 ?_
    refine lv_iload_n hx hb dX9_isStep_9 rfl (lv_at hl 1 rfl) ?_
    obtain ⟨h10, hM⟩ := gi_some hM
    refine va_iald hx hb hK hP 1 2 rfl rfl h10 dX9_isStep_10 ?_
    refine lv_iload_n hx hb dX9_isStep_11 rfl (lv_at hl 2 rfl) ?_
    refine lv_ishr hx hb dX9_isStep_12 ?_
    refine lv_iconst (v := 1) hx hb dX9_isStep_13 (by decide) ?_
    refine lv_iand hx hb dX9_isStep_14 ?_
    refine lv_iconst (v := 1) hx hb dX9_isStep_15 (by decide) ?_
    refine lv_icmp_ne (tgt := 23) hx hb dX9_isStep_16 (by decide) (fun c16 => ?_) (fun c16 => ?_)
    · have hM := g_neg c16 hM
      refine lv_iconst (v := 0) hx hb dX9_isStep_23 (by decide) ?_
      obtain rfl := si1 hM
      exact hret _ _ _ _ _ dX9_isStep_24 rfl rfl hP hD hS
    · have hM := g_pos c16 hM
      refine lv_iconst (v := 1) hx hb dX9_isStep_19 (by decide) ?_
      refine lv_goto (tgt := 24) hx hb dX9_isStep_20 (by decide) ?_
      obtain rfl := si1 hM
      exact hret _ _ _ _ _ dX9_isStep_24 rfl rfl hP hD hS

-- ===== X9_wrong wrong ()I =====
abbrev r9_wrong : Room := { frames := 3, cells := 0, slots := 0, locals := 64 }
def f9_wrong_L26 (N : Nat) (v_stayMany : Int32) (v_parts : Nat → Int32) (v_ways : Nat → Int32) (v_mouths : Nat → Int32) (v_stay : Nat → Int32) : Nat → Int32 → Option Int32
  | 0, _ => none
  | n + 1, x1_26 => if v_stayMany ≤ x1_26 then (gi (v_stayMany - (1 : Int32)) 40 (ob1 (f9_isMouth N (v_stay (v_stayMany - (1 : Int32)).toNatClampNeg) v_parts v_mouths) fun r75 => if r75 = (0 : Int32) then (some v_stayMany) else (some (-1 : Int32)))) else (gi (x1_26 - (1 : Int32)) 40 (gi x1_26 40 (ob1 (f9_isStep N (v_stay (x1_26 - (1 : Int32)).toNatClampNeg) (v_stay x1_26.toNatClampNeg) v_ways) fun r49 => if r49 = (0 : Int32) then (some x1_26) else ((f9_wrong_L26 N v_stayMany v_parts v_ways v_mouths v_stay n) (x1_26 + (1 : Int32))))))
def f9_wrong (N : Nat) (v_stayMany : Int32) (v_parts : Nat → Int32) (v_ways : Nat → Int32) (v_mouths : Nat → Int32) (v_stay : Nat → Int32) : Option Int32 :=
  if v_stayMany = (0 : Int32) then (some (-1 : Int32)) else (gi (0 : Int32) 40 (ob1 (f9_isMouth N (v_stay (0 : Int32).toNatClampNeg) v_parts v_mouths) fun r16 => if r16 = (0 : Int32) then (some (0 : Int32)) else (f9_wrong_L26 N v_stayMany v_parts v_ways v_mouths v_stay N (1 : Int32))))
set_option maxHeartbeats 4000000 in
set_option maxRecDepth 100000 in
theorem c9_wrong (l : Launch) (D : va_G) (cy : Nat → ClassId) (N : Nat) (h0 h0_parts h0_ways h0_mouths h0_stay : Nat) (oh0_0 oh0_1 oh0_2 oh0_4 oh0_6 oh0_8 oh0_9 oh0_10 oh0_11 oh0_12 oh0_13 oh0_14 oh0_15 oh0_16 oh0_17 oh0_18 oh0_19 oh0_20 oh0_21 oh0_22 oh0_23 oh0_26 oh0_27 oh0_28 oh0_29 oh0_30 oh0_31 oh0_32 oh0_33 oh0_34 oh0_35 oh0_36 oh0_37 : Value) (v_stayMany : Int32) (v_parts : Nat → Int32) (v_ways : Nat → Int32) (v_mouths : Nat → Int32) (v_stay : Nat → Int32) (r : Int32) (hM : f9_wrong N v_stayMany v_parts v_ways v_mouths v_stay = some r) (sz : Nat) : CTi l yX9_wrong wsX9_wrong r9_wrong [.ref h0] D cy sz [(h0, .inr (9, [oh0_0, oh0_1, oh0_2, .ref h0_parts, oh0_4, .ref h0_ways, oh0_6, .ref h0_mouths, oh0_8, oh0_9, oh0_10, oh0_11, oh0_12, oh0_13, oh0_14, oh0_15, oh0_16, oh0_17, oh0_18, oh0_19, oh0_20, oh0_21, oh0_22, oh0_23, .ref h0_stay, .int v_stayMany, oh0_26, oh0_27, oh0_28, oh0_29, oh0_30, oh0_31, oh0_32, oh0_33, oh0_34, oh0_35, oh0_36, oh0_37])), (h0_parts, .inl (cy 2, 2, .inl v_parts)), (h0_ways, .inl (cy 2, 14, .inl v_ways)), (h0_mouths, .inl (cy 2, 2, .inl v_mouths)), (h0_stay, .inl (cy 2, 40, .inl v_stay))] [(h0, .inr (9, [oh0_0, oh0_1, oh0_2, .ref h0_parts, oh0_4, .ref h0_ways, oh0_6, .ref h0_mouths, oh0_8, oh0_9, oh0_10, oh0_11, oh0_12, oh0_13, oh0_14, oh0_15, oh0_16, oh0_17, oh0_18, oh0_19, oh0_20, oh0_21, oh0_22, oh0_23, .ref h0_stay, .int v_stayMany, oh0_26, oh0_27, oh0_28, oh0_29, oh0_30, oh0_31, oh0_32, oh0_33, oh0_34, oh0_35, oh0_36, oh0_37])), (h0_parts, .inl (cy 2, 2, .inl v_parts)), (h0_ways, .inl (cy 2, 14, .inl v_ways)), (h0_mouths, .inl (cy 2, 2, .inl v_mouths)), (h0_stay, .inl (cy 2, 40, .inl v_stay))] r := by
  unfold f9_wrong at hM
  refine ct_oi (cc := cX9_wrong) (maxL := 2) (ty := .int) (by decide +kernel) rfl (Nat.le_of_ble_eq_true rfl) (lv0 := [(0, .ref h0)]) rfl ?_
  intro p e s m args below meth c A Q ls hx hb hts hown hml hK hP hD hS hA hret hl
  have hown : s.vm.findClass RX9 = some m.cls := hown
  have k159 := hts (.fieldLink RX9 159 "CaveYearsModel" "stayMany" "I") (List.mem_of_getElem? (i := 1) rfl)
  have iX9 := (fun w h => (List.mem_cons_of_mem _ (List.mem_append_right _ h)) : ∀ w ∈ wsX90, w ∈ wsX9_wrong)
  have k57 := hts (.fieldLink RX9 57 "CaveYearsModel" "stay" "[I") (List.mem_of_getElem? (i := 2) rfl)
  refine lv_aload_n hx hb dX9_wrong_0 rfl (lv_at hl 0 rfl) ?_
  refine va_get (D := D) (ci := 9) (v := .int v_stayMany) (C := RX9) (T := TX9) (N := 38) hx hb hts iX9 hown hK hP 0 rfl rfl 25 (by decide) k159 (fun _ h9 => h9) rfl dX9_wrong_1 ?_
  refine lv_if_ne (tgt := 9) hx hb dX9_wrong_4 (by decide) (fun c4 => ?_) (fun c4 => ?_)
  · have hM := g_neg c4 hM
    refine lv_aload_n hx hb dX9_wrong_9 rfl (lv_at hl 0 rfl) ?_
    refine lv_aload_n hx hb dX9_wrong_10 rfl (lv_at hl 0 rfl) ?_
    refine va_get (D := D) (ci := 9) (v := .ref h0_stay) (C := RX9) (T := TX9) (N := 38) hx hb hts iX9 hown hK hP 0 rfl rfl 24 (by decide) k57 (fun _ h9 => h9) rfl dX9_wrong_11 ?_
    refine lv_iconst (v := 0) hx hb dX9_wrong_14 (by decide) ?_
    obtain ⟨h15, hM⟩ := gi_some hM
    refine va_iald hx hb hK hP 4 2 rfl rfl h15 dX9_wrong_15 ?_
    obtain ⟨r16, hc16, hM⟩ := ob1_some hM
    refine cl_vi (As := [.int (v_stay (0 : Int32).toNatClampNeg)]) (rest := []) (ci := 9) (q0 := 0) (wr := [(h0_ways, .inl (cy 2, 14, .inl v_ways)), (h0_stay, .inl (cy 2, 40, .inl v_stay))]) (ws2 := [(h0, .inr (9, [oh0_0, oh0_1, oh0_2, .ref h0_parts, oh0_4, .ref h0_ways, oh0_6, .ref h0_mouths, oh0_8, oh0_9, oh0_10, oh0_11, oh0_12, oh0_13, oh0_14, oh0_15, oh0_16, oh0_17, oh0_18, oh0_19, oh0_20, oh0_21, oh0_22, oh0_23, .ref h0_stay, .int v_stayMany, oh0_26, oh0_27, oh0_28, oh0_29, oh0_30, oh0_31, oh0_32, oh0_33, oh0_34, oh0_35, oh0_36, oh0_37])), (h0_parts, .inl (cy 2, 2, .inl v_parts)), (h0_ways, .inl (cy 2, 14, .inl v_ways)), (h0_mouths, .inl (cy 2, 2, .inl v_mouths)), (h0_stay, .inl (cy 2, 40, .inl v_stay))]) (isC := [0, 1, 3]) (isR := [2, 4]) (pm := [2, 3, 0, 4, 1]) hx hb hml hown hts (c9_isMouth l D cy N h0 h0_parts h0_mouths oh0_0 oh0_1 oh0_2 oh0_4 (.ref h0_ways) oh0_6 oh0_8 oh0_9 oh0_10 oh0_11 oh0_12 oh0_13 oh0_14 oh0_15 oh0_16 oh0_17 oh0_18 oh0_19 oh0_20 oh0_21 oh0_22 oh0_23 (.ref h0_stay) (.int v_stayMany) oh0_26 oh0_27 oh0_28 oh0_29 oh0_30 oh0_31 oh0_32 oh0_33 oh0_34 oh0_35 oh0_36 oh0_37 (v_stay (0 : Int32).toNatClampNeg) v_parts v_mouths r16 hc16) (cwV 1 hts gX9_wrong_X9_isMouth rfl rfl rfl (by decide +kernel) ⟨Nat.le_of_ble_eq_true rfl, Nat.le_of_ble_eq_true rfl⟩) hK hP hD hS hA rfl rfl rfl rfl rfl (by decide) rfl rfl rfl hl.1 (Nat.le_of_ble_eq_true rfl) dX9_wrong_16 ⟨Nat.zero_le _, Nat.zero_le _⟩ rfl rfl (fun H locs hP hD hS => ?_)
    refine lv_if_ne (tgt := 24) hx hb dX9_wrong_19 (by decide) (fun c19 => ?_) (fun c19 => ?_)
    · have hM := g_neg c19 hM
      refine lv_iconst (v := 1) hx hb dX9_wrong_24 (by decide) ?_
      refine lv_istore_n (lv' := [(1, .int (1 : Int32)), (0, .ref h0)]) hx hb dX9_wrong_25 rfl hl (by decide) rfl (fun ls hl => ?_)
      have L26 : ∀ (n : Nat) (x1_26 : Int32) (H : Heap) (locs : List Loc) (ls : Array Slot), f9_wrong_L26 N v_stayMany v_parts v_ways v_mouths v_stay n x1_26 = some r → va_P D vwCl [(h0, .inr (9, [oh0_0, oh0_1, oh0_2, .ref h0_parts, oh0_4, .ref h0_ways, oh0_6, .ref h0_mouths, oh0_8, oh0_9, oh0_10, oh0_11, oh0_12, oh0_13, oh0_14, oh0_15, oh0_16, oh0_17, oh0_18, oh0_19, oh0_20, oh0_21, oh0_22, oh0_23, .ref h0_stay, .int v_stayMany, oh0_26, oh0_27, oh0_28, oh0_29, oh0_30, oh0_31, oh0_32, oh0_33, oh0_34, oh0_35, oh0_36, oh0_37])), (h0_parts, .inl (cy 2, 2, .inl v_parts)), (h0_ways, .inl (cy 2, 14, .inl v_ways)), (h0_mouths, .inl (cy 2, 2, .inl v_mouths)), (h0_stay, .inl (cy 2, 40, .inl v_stay))] H → va_D A [(h0, .inr (9, [oh0_0, oh0_1, oh0_2, .ref h0_parts, oh0_4, .ref h0_ways, oh0_6, .ref h0_mouths, oh0_8, oh0_9, oh0_10, oh0_11, oh0_12, oh0_13, oh0_14, oh0_15, oh0_16, oh0_17, oh0_18, oh0_19, oh0_20, oh0_21, oh0_22, oh0_23, .ref h0_stay, .int v_stayMany, oh0_26, oh0_27, oh0_28, oh0_29, oh0_30, oh0_31, oh0_32, oh0_33, oh0_34, oh0_35, oh0_36, oh0_37])), (h0_parts, .inl (cy 2, 2, .inl v_parts)), (h0_ways, .inl (cy 2, 14, .inl v_ways)), (h0_mouths, .inl (cy 2, 2, .inl v_mouths)), (h0_stay, .inl (cy 2, 40, .inl v_stay))] → va_S A s.heap H locs → lv_has ls 2 [(0, .ref h0), (1, .int x1_26)] → W p l e r9_wrong s m args below meth c H locs 0 0 Q (F0 m 26 ls []) := by
        intro n
        induction n with
        | zero =>
          intro x1_26 H locs ls hM
          exact absurd hM (by simp [f9_wrong_L26])
        | succ n ih =>
          intro x1_26 H locs ls hM hP hD hS hl
          rw [f9_wrong_L26] at hM
          refine lv_iload_n hx hb dX9_wrong_26 rfl (lv_at hl 1 rfl) ?_
          refine lv_aload_n hx hb dX9_wrong_27 rfl (lv_at hl 0 rfl) ?_
          refine va_get (D := D) (ci := 9) (v := .int v_stayMany) (C := RX9) (T := TX9) (N := 38) hx hb hts iX9 hown hK hP 0 rfl rfl 25 (by decide) k159 (fun _ h9 => h9) rfl dX9_wrong_28 ?_
          refine lv_icmp_ge (tgt := 63) hx hb dX9_wrong_31 (by decide) (fun c31 => ?_) (fun c31 => ?_)
          · have hM := g_pos c31 hM
            refine lv_aload_n hx hb dX9_wrong_63 rfl (lv_at hl 0 rfl) ?_
            refine lv_aload_n hx hb dX9_wrong_64 rfl (lv_at hl 0 rfl) ?_
            refine va_get (D := D) (ci := 9) (v := .ref h0_stay) (C := RX9) (T := TX9) (N := 38) hx hb hts iX9 hown hK hP 0 rfl rfl 24 (by decide) k57 (fun _ h9 => h9) rfl dX9_wrong_65 ?_
            refine lv_aload_n hx hb dX9_wrong_68 rfl (lv_at hl 0 rfl) ?_
            refine va_get (D := D) (ci := 9) (v := .int v_stayMany) (C := RX9) (T := TX9) (N := 38) hx hb hts iX9 hown hK hP 0 rfl rfl 25 (by decide) k159 (fun _ h9 => h9) rfl dX9_wrong_69 ?_
            refine lv_iconst (v := 1) hx hb dX9_wrong_72 (by decide) ?_
            refine lv_isub hx hb dX9_wrong_73 ?_
            obtain ⟨h74, hM⟩ := gi_some hM
            refine va_iald hx hb hK hP 4 2 rfl rfl h74 dX9_wrong_74 ?_
            obtain ⟨r75, hc75, hM⟩ := ob1_some hM
            refine cl_vi (As := [.int (v_stay (v_stayMany - (1 : Int32)).toNatClampNeg)]) (rest := []) (ci := 9) (q0 := 0) (wr := [(h0_ways, .inl (cy 2, 14, .inl v_ways)), (h0_stay, .inl (cy 2, 40, .inl v_stay))]) (ws2 := [(h0, .inr (9, [oh0_0, oh0_1, oh0_2, .ref h0_parts, oh0_4, .ref h0_ways, oh0_6, .ref h0_mouths, oh0_8, oh0_9, oh0_10, oh0_11, oh0_12, oh0_13, oh0_14, oh0_15, oh0_16, oh0_17, oh0_18, oh0_19, oh0_20, oh0_21, oh0_22, oh0_23, .ref h0_stay, .int v_stayMany, oh0_26, oh0_27, oh0_28, oh0_29, oh0_30, oh0_31, oh0_32, oh0_33, oh0_34, oh0_35, oh0_36, oh0_37])), (h0_parts, .inl (cy 2, 2, .inl v_parts)), (h0_ways, .inl (cy 2, 14, .inl v_ways)), (h0_mouths, .inl (cy 2, 2, .inl v_mouths)), (h0_stay, .inl (cy 2, 40, .inl v_stay))]) (isC := [0, 1, 3]) (isR := [2, 4]) (pm := [2, 3, 0, 4, 1]) hx hb hml hown hts (c9_isMouth l D cy N h0 h0_parts h0_mouths oh0_0 oh0_1 oh0_2 oh0_4 (.ref h0_ways) oh0_6 oh0_8 oh0_9 oh0_10 oh0_11 oh0_12 oh0_13 oh0_14 oh0_15 oh0_16 oh0_17 oh0_18 oh0_19 oh0_20 oh0_21 oh0_22 oh0_23 (.ref h0_stay) (.int v_stayMany) oh0_26 oh0_27 oh0_28 oh0_29 oh0_30 oh0_31 oh0_32 oh0_33 oh0_34 oh0_35 oh0_36 oh0_37 (v_stay (v_stayMany - (1 : Int32)).toNatClampNeg) v_parts v_mouths r75 hc75) (cwV 1 hts gX9_wrong_X9_isMouth rfl rfl rfl (by decide +kernel) ⟨Nat.le_of_ble_eq_true rfl, Nat.le_of_ble_eq_true rfl⟩) hK hP hD hS hA rfl rfl rfl rfl rfl (by decide) rfl rfl rfl hl.1 (Nat.le_of_ble_eq_true rfl) dX9_wrong_75 ⟨Nat.zero_le _, Nat.zero_le _⟩ rfl rfl (fun H locs hP hD hS => ?_)
            refine lv_if_eq (tgt := 85) hx hb dX9_wrong_78 (by decide) (fun c78 => ?_) (fun c78 => ?_)
            · have hM := g_pos c78 hM
              refine lv_aload_n hx hb dX9_wrong_85 rfl (lv_at hl 0 rfl) ?_
              refine va_get (D := D) (ci := 9) (v := .int v_stayMany) (C := RX9) (T := TX9) (N := 38) hx hb hts iX9 hown hK hP 0 rfl rfl 25 (by decide) k159 (fun _ h9 => h9) rfl dX9_wrong_86 ?_
              obtain rfl := si1 hM
              exact hret _ _ _ _ _ dX9_wrong_89 rfl rfl hP hD hS
            · have hM := g_neg c78 hM
              refine lv_iconst (v := -1) hx hb dX9_wrong_81 (by decide) ?_
              refine lv_goto (tgt := 89) hx hb dX9_wrong_82 (by decide) ?_
              obtain rfl := si1 hM
              exact hret _ _ _ _ _ dX9_wrong_89 rfl rfl hP hD hS
          · have hM := g_neg c31 hM
            refine lv_aload_n hx hb dX9_wrong_34 rfl (lv_at hl 0 rfl) ?_
            refine lv_aload_n hx hb dX9_wrong_35 rfl (lv_at hl 0 rfl) ?_
            refine va_get (D := D) (ci := 9) (v := .ref h0_stay) (C := RX9) (T := TX9) (N := 38) hx hb hts iX9 hown hK hP 0 rfl rfl 24 (by decide) k57 (fun _ h9 => h9) rfl dX9_wrong_36 ?_
            refine lv_iload_n hx hb dX9_wrong_39 rfl (lv_at hl 1 rfl) ?_
            refine lv_iconst (v := 1) hx hb dX9_wrong_40 (by decide) ?_
            refine lv_isub hx hb dX9_wrong_41 ?_
            obtain ⟨h42, hM⟩ := gi_some hM
            refine va_iald hx hb hK hP 4 2 rfl rfl h42 dX9_wrong_42 ?_
            refine lv_aload_n hx hb dX9_wrong_43 rfl (lv_at hl 0 rfl) ?_
            refine va_get (D := D) (ci := 9) (v := .ref h0_stay) (C := RX9) (T := TX9) (N := 38) hx hb hts iX9 hown hK hP 0 rfl rfl 24 (by decide) k57 (fun _ h9 => h9) rfl dX9_wrong_44 ?_
            refine lv_iload_n hx hb dX9_wrong_47 rfl (lv_at hl 1 rfl) ?_
            obtain ⟨h48, hM⟩ := gi_some hM
            refine va_iald hx hb hK hP 4 2 rfl rfl h48 dX9_wrong_48 ?_
            obtain ⟨r49, hc49, hM⟩ := ob1_some hM
            refine cl_vi (As := [.int (v_stay (x1_26 - (1 : Int32)).toNatClampNeg), .int (v_stay x1_26.toNatClampNeg)]) (rest := []) (ci := 9) (q0 := 0) (wr := [(h0_parts, .inl (cy 2, 2, .inl v_parts)), (h0_mouths, .inl (cy 2, 2, .inl v_mouths)), (h0_stay, .inl (cy 2, 40, .inl v_stay))]) (ws2 := [(h0, .inr (9, [oh0_0, oh0_1, oh0_2, .ref h0_parts, oh0_4, .ref h0_ways, oh0_6, .ref h0_mouths, oh0_8, oh0_9, oh0_10, oh0_11, oh0_12, oh0_13, oh0_14, oh0_15, oh0_16, oh0_17, oh0_18, oh0_19, oh0_20, oh0_21, oh0_22, oh0_23, .ref h0_stay, .int v_stayMany, oh0_26, oh0_27, oh0_28, oh0_29, oh0_30, oh0_31, oh0_32, oh0_33, oh0_34, oh0_35, oh0_36, oh0_37])), (h0_parts, .inl (cy 2, 2, .inl v_parts)), (h0_ways, .inl (cy 2, 14, .inl v_ways)), (h0_mouths, .inl (cy 2, 2, .inl v_mouths)), (h0_stay, .inl (cy 2, 40, .inl v_stay))]) (isC := [0, 2]) (isR := [1, 3, 4]) (pm := [3, 0, 4, 1, 2]) hx hb hml hown hts (c9_isStep l D cy N h0 h0_ways oh0_0 oh0_1 oh0_2 (.ref h0_parts) oh0_4 oh0_6 (.ref h0_mouths) oh0_8 oh0_9 oh0_10 oh0_11 oh0_12 oh0_13 oh0_14 oh0_15 oh0_16 oh0_17 oh0_18 oh0_19 oh0_20 oh0_21 oh0_22 oh0_23 (.ref h0_stay) (.int v_stayMany) oh0_26 oh0_27 oh0_28 oh0_29 oh0_30 oh0_31 oh0_32 oh0_33 oh0_34 oh0_35 oh0_36 oh0_37 (v_stay (x1_26 - (1 : Int32)).toNatClampNeg) (v_stay x1_26.toNatClampNeg) v_ways r49 hc49) (cwV 2 hts gX9_wrong_X9_isStep rfl rfl rfl (by decide +kernel) ⟨Nat.le_of_ble_eq_true rfl, Nat.le_of_ble_eq_true rfl⟩) hK hP hD hS hA rfl rfl rfl rfl rfl (by decide) rfl rfl rfl hl.1 (Nat.le_of_ble_eq_true rfl) dX9_wrong_49 ⟨Nat.zero_le _, Nat.zero_le _⟩ rfl rfl (fun H locs hP hD hS => ?_)
            refine lv_if_ne (tgt := 57) hx hb dX9_wrong_52 (by decide) (fun c52 => ?_) (fun c52 => ?_)
            · have hM := g_neg c52 hM
              refine lv_iinc (v := x1_26 + (1 : Int32)) (lv' := [(1, .int (x1_26 + (1 : Int32))), (0, .ref h0)]) hx hb dX9_wrong_57 hl (k := 1) rfl rfl (by decide) rfl (fun ls hl => ?_)
              refine lv_goto (tgt := 26) hx hb dX9_wrong_60 (by decide) ?_
              exact ih (x1_26 + (1 : Int32)) _ _ _ hM hP hD hS (lv_sub hl [1, 0] rfl)
            · have hM := g_pos c52 hM
              refine lv_iload_n hx hb dX9_wrong_55 rfl (lv_at hl 1 rfl) ?_
              obtain rfl := si1 hM
              exact hret _ _ _ _ _ dX9_wrong_56 rfl rfl hP hD hS
      exact L26 N (1 : Int32) _ _ _ hM hP hD hS (lv_sub hl [1, 0] rfl)
    · have hM := g_pos c19 hM
      refine lv_iconst (v := 0) hx hb dX9_wrong_22 (by decide) ?_
      obtain rfl := si1 hM
      exact hret _ _ _ _ _ dX9_wrong_23 rfl rfl hP hD hS
  · have hM := g_pos c4 hM
    refine lv_iconst (v := -1) hx hb dX9_wrong_7 (by decide) ?_
    obtain rfl := si1 hM
    exact hret _ _ _ _ _ dX9_wrong_8 rfl rfl hP hD hS

-- ===== X9_judge judge ()I =====
abbrev r9_judge : Room := { frames := 4, cells := 0, slots := 0, locals := 85 }
def f9_judge (N : Nat) (v_stayMany : Int32) (v_parts : Nat → Int32) (v_ways : Nat → Int32) (v_mouths : Nat → Int32) (v_stay : Nat → Int32) : Option Int32 :=
  ob1 (f9_wrong N v_stayMany v_parts v_ways v_mouths v_stay) fun r1 => some r1
set_option maxHeartbeats 4000000 in
set_option maxRecDepth 100000 in
theorem c9_judge (l : Launch) (D : va_G) (cy : Nat → ClassId) (N : Nat) (h0 h0_parts h0_ways h0_mouths h0_stay : Nat) (oh0_0 oh0_1 oh0_2 oh0_4 oh0_6 oh0_8 oh0_9 oh0_10 oh0_11 oh0_12 oh0_13 oh0_14 oh0_15 oh0_16 oh0_17 oh0_18 oh0_19 oh0_20 oh0_21 oh0_22 oh0_23 oh0_26 oh0_27 oh0_28 oh0_29 oh0_30 oh0_31 oh0_32 oh0_33 oh0_34 oh0_35 oh0_36 oh0_37 : Value) (v_stayMany : Int32) (v_parts : Nat → Int32) (v_ways : Nat → Int32) (v_mouths : Nat → Int32) (v_stay : Nat → Int32) (r : Int32) (hM : f9_judge N v_stayMany v_parts v_ways v_mouths v_stay = some r) (sz : Nat) : CTi l yX9_judge wsX9_judge r9_judge [.ref h0] D cy sz [(h0, .inr (9, [oh0_0, oh0_1, oh0_2, .ref h0_parts, oh0_4, .ref h0_ways, oh0_6, .ref h0_mouths, oh0_8, oh0_9, oh0_10, oh0_11, oh0_12, oh0_13, oh0_14, oh0_15, oh0_16, oh0_17, oh0_18, oh0_19, oh0_20, oh0_21, oh0_22, oh0_23, .ref h0_stay, .int v_stayMany, oh0_26, oh0_27, oh0_28, oh0_29, oh0_30, oh0_31, oh0_32, oh0_33, oh0_34, oh0_35, oh0_36, oh0_37])), (h0_parts, .inl (cy 2, 2, .inl v_parts)), (h0_ways, .inl (cy 2, 14, .inl v_ways)), (h0_mouths, .inl (cy 2, 2, .inl v_mouths)), (h0_stay, .inl (cy 2, 40, .inl v_stay))] [(h0, .inr (9, [oh0_0, oh0_1, oh0_2, .ref h0_parts, oh0_4, .ref h0_ways, oh0_6, .ref h0_mouths, oh0_8, oh0_9, oh0_10, oh0_11, oh0_12, oh0_13, oh0_14, oh0_15, oh0_16, oh0_17, oh0_18, oh0_19, oh0_20, oh0_21, oh0_22, oh0_23, .ref h0_stay, .int v_stayMany, oh0_26, oh0_27, oh0_28, oh0_29, oh0_30, oh0_31, oh0_32, oh0_33, oh0_34, oh0_35, oh0_36, oh0_37])), (h0_parts, .inl (cy 2, 2, .inl v_parts)), (h0_ways, .inl (cy 2, 14, .inl v_ways)), (h0_mouths, .inl (cy 2, 2, .inl v_mouths)), (h0_stay, .inl (cy 2, 40, .inl v_stay))] r := by
  unfold f9_judge at hM
  refine ct_oi (cc := cX9_judge) (maxL := 1) (ty := .int) (by decide +kernel) rfl (Nat.le_of_ble_eq_true rfl) (lv0 := [(0, .ref h0)]) rfl ?_
  intro p e s m args below meth c A Q ls hx hb hts hown hml hK hP hD hS hA hret hl
  have hown : s.vm.findClass RX9 = some m.cls := hown
  refine lv_aload_n hx hb dX9_judge_0 rfl (lv_at hl 0 rfl) ?_
  obtain ⟨r1, hc1, hM⟩ := ob1_some hM
  refine cl_vi (As := []) (rest := []) (ci := 9) (q0 := 0) (wr := []) (ws2 := [(h0, .inr (9, [oh0_0, oh0_1, oh0_2, .ref h0_parts, oh0_4, .ref h0_ways, oh0_6, .ref h0_mouths, oh0_8, oh0_9, oh0_10, oh0_11, oh0_12, oh0_13, oh0_14, oh0_15, oh0_16, oh0_17, oh0_18, oh0_19, oh0_20, oh0_21, oh0_22, oh0_23, .ref h0_stay, .int v_stayMany, oh0_26, oh0_27, oh0_28, oh0_29, oh0_30, oh0_31, oh0_32, oh0_33, oh0_34, oh0_35, oh0_36, oh0_37])), (h0_parts, .inl (cy 2, 2, .inl v_parts)), (h0_ways, .inl (cy 2, 14, .inl v_ways)), (h0_mouths, .inl (cy 2, 2, .inl v_mouths)), (h0_stay, .inl (cy 2, 40, .inl v_stay))]) (isC := [0, 1, 2, 3, 4]) (isR := []) (pm := [0, 1, 2, 3, 4]) hx hb hml hown hts (c9_wrong l D cy N h0 h0_parts h0_ways h0_mouths h0_stay oh0_0 oh0_1 oh0_2 oh0_4 oh0_6 oh0_8 oh0_9 oh0_10 oh0_11 oh0_12 oh0_13 oh0_14 oh0_15 oh0_16 oh0_17 oh0_18 oh0_19 oh0_20 oh0_21 oh0_22 oh0_23 oh0_26 oh0_27 oh0_28 oh0_29 oh0_30 oh0_31 oh0_32 oh0_33 oh0_34 oh0_35 oh0_36 oh0_37 v_stayMany v_parts v_ways v_mouths v_stay r1 hc1) (cwV 0 hts gX9_judge_X9_wrong rfl rfl rfl (by decide +kernel) ⟨Nat.le_of_ble_eq_true rfl, Nat.le_of_ble_eq_true rfl⟩) hK hP hD hS hA rfl rfl rfl rfl rfl (by decide) rfl rfl rfl hl.1 (Nat.le_of_ble_eq_true rfl) dX9_judge_1 ⟨Nat.zero_le _, Nat.zero_le _⟩ rfl rfl (fun H locs hP hD hS => ?_)
  obtain rfl := si1 hM
  exact hret _ _ _ _ _ dX9_judge_4 rfl rfl hP hD hS

-- ===== X9_goIn goIn (III)V =====
abbrev r9_goIn : Room := { frames := 0, cells := 0, slots := 0, locals := 0 }
def f9_goIn (N : Nat) (p1 : Int32) (p2 : Int32) (p3 : Int32) (v_now : Nat → Int32) : Option (Nat → Int32) :=
  gi ((1 : Int32) + p1) 60 (gi ((1 : Int32) + p1) 60 (gi (0 : Int32) 60 (gi ((13 : Int32) + p1) 60 (some (upd (upd v_now ((1 : Int32) + p1).toNatClampNeg ((v_now ((1 : Int32) + p1).toNatClampNeg) + p2)) ((13 : Int32) + p1).toNatClampNeg (((upd v_now ((1 : Int32) + p1).toNatClampNeg ((v_now ((1 : Int32) + p1).toNatClampNeg) + p2)) (0 : Int32).toNatClampNeg) + p3))))))
set_option maxHeartbeats 4000000 in
set_option maxRecDepth 100000 in
theorem c9_goIn (l : Launch) (D : va_G) (cy : Nat → ClassId) (N : Nat) (h0 h0_now : Nat) (oh0_0 oh0_1 oh0_2 oh0_3 oh0_4 oh0_5 oh0_6 oh0_7 oh0_8 oh0_9 oh0_10 oh0_11 oh0_12 oh0_13 oh0_14 oh0_15 oh0_16 oh0_17 oh0_18 oh0_19 oh0_20 oh0_21 oh0_23 oh0_24 oh0_25 oh0_26 oh0_27 oh0_28 oh0_29 oh0_30 oh0_31 oh0_32 oh0_33 oh0_34 oh0_35 oh0_36 oh0_37 : Value) (p1 : Int32) (p2 : Int32) (p3 : Int32) (v_now : Nat → Int32) (nv_now : Nat → Int32) (hM : f9_goIn N p1 p2 p3 v_now = some nv_now) (sz : Nat) : CTv l yX9_goIn wsX9_goIn r9_goIn [.ref h0, .int p1, .int p2, .int p3] D cy sz [(h0, .inr (9, [oh0_0, oh0_1, oh0_2, oh0_3, oh0_4, oh0_5, oh0_6, oh0_7, oh0_8, oh0_9, oh0_10, oh0_11, oh0_12, oh0_13, oh0_14, oh0_15, oh0_16, oh0_17, oh0_18, oh0_19, oh0_20, oh0_21, .ref h0_now, oh0_23, oh0_24, oh0_25, oh0_26, oh0_27, oh0_28, oh0_29, oh0_30, oh0_31, oh0_32, oh0_33, oh0_34, oh0_35, oh0_36, oh0_37])), (h0_now, .inl (cy 2, 60, .inl v_now))] [(h0, .inr (9, [oh0_0, oh0_1, oh0_2, oh0_3, oh0_4, oh0_5, oh0_6, oh0_7, oh0_8, oh0_9, oh0_10, oh0_11, oh0_12, oh0_13, oh0_14, oh0_15, oh0_16, oh0_17, oh0_18, oh0_19, oh0_20, oh0_21, .ref h0_now, oh0_23, oh0_24, oh0_25, oh0_26, oh0_27, oh0_28, oh0_29, oh0_30, oh0_31, oh0_32, oh0_33, oh0_34, oh0_35, oh0_36, oh0_37])), (h0_now, .inl (cy 2, 60, .inl nv_now))] := by
  unfold f9_goIn at hM
  refine ct_ov (cc := cX9_goIn) (maxL := 4)  (by decide +kernel) rfl (Nat.le_of_ble_eq_true rfl) (lv0 := [(0, .ref h0), (1, .int p1), (2, .int p2), (3, .int p3)]) rfl ?_
  intro p e s m args below meth c A Q ls hx hb hts hown hml hK hP hD hS hA hret hl
  have hown : s.vm.findClass RX9 = some m.cls := hown
  have k50 := hts (.fieldLink RX9 50 "CaveYearsModel" "now" "[I") (List.mem_of_getElem? (i := 1) rfl)
  have iX9 := (fun w h => (List.mem_cons_of_mem _ (List.mem_append_right _ h)) : ∀ w ∈ wsX90, w ∈ wsX9_goIn)
  refine lv_aload_n hx hb dX9_goIn_0 rfl (lv_at hl 0 rfl) ?_
  refine va_get (D := D) (ci := 9) (v := .ref h0_now) (C := RX9) (T := TX9) (N := 38) hx hb hts iX9 hown hK hP 0 rfl rfl 22 (by decide) k50 (fun _ h9 => h9) rfl dX9_goIn_1 ?_
  refine lv_iconst (v := 1) hx hb dX9_goIn_4 (by decide) ?_
  refine lv_iload_n hx hb dX9_goIn_5 rfl (lv_at hl 1 rfl) ?_
  refine lv_iadd hx hb dX9_goIn_6 ?_
  refine lv_dup2_11 hx hb dX9_goIn_7 rfl rfl ?_
  obtain ⟨h8, hM⟩ := gi_some hM
  refine va_iald hx hb hK hP 1 2 rfl rfl h8 dX9_goIn_8 ?_
  refine lv_iload_n hx hb dX9_goIn_9 rfl (lv_at hl 2 rfl) ?_
  refine lv_iadd hx hb dX9_goIn_10 ?_
  obtain ⟨h11, hM⟩ := gi_some hM
  refine va_iast hx hb hK hP hD hS 1 2 rfl rfl h11 dX9_goIn_11 (fun H locs hP hD hS => ?_)
  have hP : va_P D vwCl [(h0, .inr (9, [oh0_0, oh0_1, oh0_2, oh0_3, oh0_4, oh0_5, oh0_6, oh0_7, oh0_8, oh0_9, oh0_10, oh0_11, oh0_12, oh0_13, oh0_14, oh0_15, oh0_16, oh0_17, oh0_18, oh0_19, oh0_20, oh0_21, .ref h0_now, oh0_23, oh0_24, oh0_25, oh0_26, oh0_27, oh0_28, oh0_29, oh0_30, oh0_31, oh0_32, oh0_33, oh0_34, oh0_35, oh0_36, oh0_37])), (h0_now, .inl (cy 2, 60, .inl (upd v_now ((1 : Int32) + p1).toNatClampNeg ((v_now ((1 : Int32) + p1).toNatClampNeg) + p2))))] H := hP
  have hD : va_D A [(h0, .inr (9, [oh0_0, oh0_1, oh0_2, oh0_3, oh0_4, oh0_5, oh0_6, oh0_7, oh0_8, oh0_9, oh0_10, oh0_11, oh0_12, oh0_13, oh0_14, oh0_15, oh0_16, oh0_17, oh0_18, oh0_19, oh0_20, oh0_21, .ref h0_now, oh0_23, oh0_24, oh0_25, oh0_26, oh0_27, oh0_28, oh0_29, oh0_30, oh0_31, oh0_32, oh0_33, oh0_34, oh0_35, oh0_36, oh0_37])), (h0_now, .inl (cy 2, 60, .inl (upd v_now ((1 : Int32) + p1).toNatClampNeg ((v_now ((1 : Int32) + p1).toNatClampNeg) + p2))))] := hD
  refine lv_aload_n hx hb dX9_goIn_12 rfl (lv_at hl 0 rfl) ?_
  refine va_get (D := D) (ci := 9) (v := .ref h0_now) (C := RX9) (T := TX9) (N := 38) hx hb hts iX9 hown hK hP 0 rfl rfl 22 (by decide) k50 (fun _ h9 => h9) rfl dX9_goIn_13 ?_
  refine lv_bipush (v := 13) hx hb dX9_goIn_16 (by decide) ?_
  refine lv_iload_n hx hb dX9_goIn_18 rfl (lv_at hl 1 rfl) ?_
  refine lv_iadd hx hb dX9_goIn_19 ?_
  refine lv_aload_n hx hb dX9_goIn_20 rfl (lv_at hl 0 rfl) ?_
  refine va_get (D := D) (ci := 9) (v := .ref h0_now) (C := RX9) (T := TX9) (N := 38) hx hb hts iX9 hown hK hP 0 rfl rfl 22 (by decide) k50 (fun _ h9 => h9) rfl dX9_goIn_21 ?_
  refine lv_iconst (v := 0) hx hb dX9_goIn_24 (by decide) ?_
  obtain ⟨h25, hM⟩ := gi_some hM
  refine va_iald hx hb hK hP 1 2 rfl rfl h25 dX9_goIn_25 ?_
  refine lv_iload_n hx hb dX9_goIn_26 rfl (lv_at hl 3 rfl) ?_
  refine lv_iadd hx hb dX9_goIn_27 ?_
  obtain ⟨h28, hM⟩ := gi_some hM
  refine va_iast hx hb hK hP hD hS 1 2 rfl rfl h28 dX9_goIn_28 (fun H locs hP hD hS => ?_)
  have hP : va_P D vwCl [(h0, .inr (9, [oh0_0, oh0_1, oh0_2, oh0_3, oh0_4, oh0_5, oh0_6, oh0_7, oh0_8, oh0_9, oh0_10, oh0_11, oh0_12, oh0_13, oh0_14, oh0_15, oh0_16, oh0_17, oh0_18, oh0_19, oh0_20, oh0_21, .ref h0_now, oh0_23, oh0_24, oh0_25, oh0_26, oh0_27, oh0_28, oh0_29, oh0_30, oh0_31, oh0_32, oh0_33, oh0_34, oh0_35, oh0_36, oh0_37])), (h0_now, .inl (cy 2, 60, .inl (upd (upd v_now ((1 : Int32) + p1).toNatClampNeg ((v_now ((1 : Int32) + p1).toNatClampNeg) + p2)) ((13 : Int32) + p1).toNatClampNeg (((upd v_now ((1 : Int32) + p1).toNatClampNeg ((v_now ((1 : Int32) + p1).toNatClampNeg) + p2)) (0 : Int32).toNatClampNeg) + p3))))] H := hP
  have hD : va_D A [(h0, .inr (9, [oh0_0, oh0_1, oh0_2, oh0_3, oh0_4, oh0_5, oh0_6, oh0_7, oh0_8, oh0_9, oh0_10, oh0_11, oh0_12, oh0_13, oh0_14, oh0_15, oh0_16, oh0_17, oh0_18, oh0_19, oh0_20, oh0_21, .ref h0_now, oh0_23, oh0_24, oh0_25, oh0_26, oh0_27, oh0_28, oh0_29, oh0_30, oh0_31, oh0_32, oh0_33, oh0_34, oh0_35, oh0_36, oh0_37])), (h0_now, .inl (cy 2, 60, .inl (upd (upd v_now ((1 : Int32) + p1).toNatClampNeg ((v_now ((1 : Int32) + p1).toNatClampNeg) + p2)) ((13 : Int32) + p1).toNatClampNeg (((upd v_now ((1 : Int32) + p1).toNatClampNeg ((v_now ((1 : Int32) + p1).toNatClampNeg) + p2)) (0 : Int32).toNatClampNeg) + p3))))] := hD
  obtain rfl := si1 hM
  exact hret _ _ _ _ dX9_goIn_29 hP hD hS

-- ===== X9_enter enter (I)I =====
abbrev r9_enter : Room := { frames := 4, cells := 0, slots := 0, locals := 85 }
def f9_enter (N : Nat) (p1 : Int32) (v_stayMany : Int32) (v_parts : Nat → Int32) (v_rates : Nat → Int32) (v_ways : Nat → Int32) (v_mouths : Nat → Int32) (v_persons : Nat → Int32) (v_now : Nat → Int32) (v_stay : Nat → Int32) : Option (Int32 × (Nat → Int32)) :=
  ob1 (f9_isPerson N p1 v_persons) fun r2 => if r2 = (0 : Int32) then (some ((-1000000001 : Int32), v_now)) else (ob1 (f9_isDown N p1 v_now) fun r13 => if r13 = (0 : Int32) then (if v_stayMany = (0 : Int32) then (some ((-1000000003 : Int32), v_now)) else (ob1 (f9_wrong N v_stayMany v_parts v_ways v_mouths v_stay) fun r27 => if r27 = (-1 : Int32) then (ob1 (f9_stayTime N v_stayMany v_rates v_stay) fun r44 => ob1 (f9_goIn N p1 v_stayMany r44 v_now) fun v_now_47 => gi ((13 : Int32) + p1) 60 (some ((v_now_47 ((13 : Int32) + p1).toNatClampNeg), v_now_47))) else (some ((-1000000003 : Int32), v_now)))) else (some ((-1000000003 : Int32), v_now)))
set_option maxHeartbeats 4000000 in
set_option maxRecDepth 100000 in
theorem c9_enter (l : Launch) (D : va_G) (cy : Nat → ClassId) (N : Nat) (h0 h0_parts h0_rates h0_ways h0_mouths h0_persons h0_now h0_stay : Nat) (oh0_0 oh0_1 oh0_2 oh0_6 oh0_9 oh0_10 oh0_11 oh0_12 oh0_13 oh0_14 oh0_15 oh0_16 oh0_17 oh0_18 oh0_19 oh0_20 oh0_21 oh0_23 oh0_26 oh0_27 oh0_28 oh0_29 oh0_30 oh0_31 oh0_32 oh0_33 oh0_34 oh0_35 oh0_36 oh0_37 : Value) (p1 : Int32) (v_stayMany : Int32) (v_parts : Nat → Int32) (v_rates : Nat → Int32) (v_ways : Nat → Int32) (v_mouths : Nat → Int32) (v_persons : Nat → Int32) (v_now : Nat → Int32) (v_stay : Nat → Int32) (r : Int32) (nv_now : Nat → Int32) (hM : f9_enter N p1 v_stayMany v_parts v_rates v_ways v_mouths v_persons v_now v_stay = some (r, nv_now)) (sz : Nat) : CTi l yX9_enter wsX9_enter r9_enter [.ref h0, .int p1] D cy sz [(h0, .inr (9, [oh0_0, oh0_1, oh0_2, .ref h0_parts, .ref h0_rates, .ref h0_ways, oh0_6, .ref h0_mouths, .ref h0_persons, oh0_9, oh0_10, oh0_11, oh0_12, oh0_13, oh0_14, oh0_15, oh0_16, oh0_17, oh0_18, oh0_19, oh0_20, oh0_21, .ref h0_now, oh0_23, .ref h0_stay, .int v_stayMany, oh0_26, oh0_27, oh0_28, oh0_29, oh0_30, oh0_31, oh0_32, oh0_33, oh0_34, oh0_35, oh0_36, oh0_37])), (h0_parts, .inl (cy 2, 2, .inl v_parts)), (h0_rates, .inl (cy 2, 14, .inl v_rates)), (h0_ways, .inl (cy 2, 14, .inl v_ways)), (h0_mouths, .inl (cy 2, 2, .inl v_mouths)), (h0_persons, .inl (cy 2, 2, .inl v_persons)), (h0_now, .inl (cy 2, 60, .inl v_now)), (h0_stay, .inl (cy 2, 40, .inl v_stay))] [(h0, .inr (9, [oh0_0, oh0_1, oh0_2, .ref h0_parts, .ref h0_rates, .ref h0_ways, oh0_6, .ref h0_mouths, .ref h0_persons, oh0_9, oh0_10, oh0_11, oh0_12, oh0_13, oh0_14, oh0_15, oh0_16, oh0_17, oh0_18, oh0_19, oh0_20, oh0_21, .ref h0_now, oh0_23, .ref h0_stay, .int v_stayMany, oh0_26, oh0_27, oh0_28, oh0_29, oh0_30, oh0_31, oh0_32, oh0_33, oh0_34, oh0_35, oh0_36, oh0_37])), (h0_parts, .inl (cy 2, 2, .inl v_parts)), (h0_rates, .inl (cy 2, 14, .inl v_rates)), (h0_ways, .inl (cy 2, 14, .inl v_ways)), (h0_mouths, .inl (cy 2, 2, .inl v_mouths)), (h0_persons, .inl (cy 2, 2, .inl v_persons)), (h0_now, .inl (cy 2, 60, .inl nv_now)), (h0_stay, .inl (cy 2, 40, .inl v_stay))] r := by
  unfold f9_enter at hM
  refine ct_oi (cc := cX9_enter) (maxL := 2) (ty := .int) (by decide +kernel) rfl (Nat.le_of_ble_eq_true rfl) (lv0 := [(0, .ref h0), (1, .int p1)]) rfl ?_
  intro p e s m args below meth c A Q ls hx hb hts hown hml hK hP hD hS hA hret hl
  have hown : s.vm.findClass RX9 = some m.cls := hown
  have k197 := hts (.constant RX9 197 (-1000000003)) (List.mem_of_getElem? (i := 3) rfl)
  have k159 := hts (.fieldLink RX9 159 "CaveYearsModel" "stayMany" "I") (List.mem_of_getElem? (i := 2) rfl)
  have iX9 := (fun w h => (List.mem_cons_of_mem _ (List.mem_append_right _ h)) : ∀ w ∈ wsX90, w ∈ wsX9_enter)
  have k50 := hts (.fieldLink RX9 50 "CaveYearsModel" "now" "[I") (List.mem_of_getElem? (i := 4) rfl)
  have k180 := hts (.constant RX9 180 (-1000000001)) (List.mem_of_getElem? (i := 1) rfl)
  refine lv_aload_n hx hb dX9_enter_0 rfl (lv_at hl 0 rfl) ?_
  refine lv_iload_n hx hb dX9_enter_1 rfl (lv_at hl 1 rfl) ?_
  obtain ⟨r2, hc2, hM⟩ := ob1_some hM
  refine cl_vi (As := [.int p1]) (rest := []) (ci := 9) (q0 := 0) (wr := [(h0_parts, .inl (cy 2, 2, .inl v_parts)), (h0_rates, .inl (cy 2, 14, .inl v_rates)), (h0_ways, .inl (cy 2, 14, .inl v_ways)), (h0_mouths, .inl (cy 2, 2, .inl v_mouths)), (h0_now, .inl (cy 2, 60, .inl v_now)), (h0_stay, .inl (cy 2, 40, .inl v_stay))]) (ws2 := [(h0, .inr (9, [oh0_0, oh0_1, oh0_2, .ref h0_parts, .ref h0_rates, .ref h0_ways, oh0_6, .ref h0_mouths, .ref h0_persons, oh0_9, oh0_10, oh0_11, oh0_12, oh0_13, oh0_14, oh0_15, oh0_16, oh0_17, oh0_18, oh0_19, oh0_20, oh0_21, .ref h0_now, oh0_23, .ref h0_stay, .int v_stayMany, oh0_26, oh0_27, oh0_28, oh0_29, oh0_30, oh0_31, oh0_32, oh0_33, oh0_34, oh0_35, oh0_36, oh0_37])), (h0_parts, .inl (cy 2, 2, .inl v_parts)), (h0_rates, .inl (cy 2, 14, .inl v_rates)), (h0_ways, .inl (cy 2, 14, .inl v_ways)), (h0_mouths, .inl (cy 2, 2, .inl v_mouths)), (h0_persons, .inl (cy 2, 2, .inl v_persons)), (h0_now, .inl (cy 2, 60, .inl v_now)), (h0_stay, .inl (cy 2, 40, .inl v_stay))]) (isC := [0, 5]) (isR := [1, 2, 3, 4, 6, 7]) (pm := [6, 0, 1, 2, 3, 7, 4, 5]) hx hb hml hown hts (c9_isPerson l D cy N h0 h0_persons oh0_0 oh0_1 oh0_2 (.ref h0_parts) (.ref h0_rates) (.ref h0_ways) oh0_6 (.ref h0_mouths) oh0_9 oh0_10 oh0_11 oh0_12 oh0_13 oh0_14 oh0_15 oh0_16 oh0_17 oh0_18 oh0_19 oh0_20 oh0_21 (.ref h0_now) oh0_23 (.ref h0_stay) (.int v_stayMany) oh0_26 oh0_27 oh0_28 oh0_29 oh0_30 oh0_31 oh0_32 oh0_33 oh0_34 oh0_35 oh0_36 oh0_37 p1 v_persons r2 hc2) (cwV 1 hts gX9_enter_X9_isPerson rfl rfl rfl (by decide +kernel) ⟨Nat.le_of_ble_eq_true rfl, Nat.le_of_ble_eq_true rfl⟩) hK hP hD hS hA rfl rfl rfl rfl rfl (by decide) rfl rfl rfl hl.1 (Nat.le_of_ble_eq_true rfl) dX9_enter_2 ⟨Nat.zero_le _, Nat.zero_le _⟩ rfl rfl (fun H locs hP hD hS => ?_)
  refine lv_if_ne (tgt := 11) hx hb dX9_enter_5 (by decide) (fun c5 => ?_) (fun c5 => ?_)
  · have hM := g_neg c5 hM
    refine lv_aload_n hx hb dX9_enter_11 rfl (lv_at hl 0 rfl) ?_
    refine lv_iload_n hx hb dX9_enter_12 rfl (lv_at hl 1 rfl) ?_
    obtain ⟨r13, hc13, hM⟩ := ob1_some hM
    refine cl_vi (As := [.int p1]) (rest := []) (ci := 9) (q0 := 0) (wr := [(h0_parts, .inl (cy 2, 2, .inl v_parts)), (h0_rates, .inl (cy 2, 14, .inl v_rates)), (h0_ways, .inl (cy 2, 14, .inl v_ways)), (h0_mouths, .inl (cy 2, 2, .inl v_mouths)), (h0_persons, .inl (cy 2, 2, .inl v_persons)), (h0_stay, .inl (cy 2, 40, .inl v_stay))]) (ws2 := [(h0, .inr (9, [oh0_0, oh0_1, oh0_2, .ref h0_parts, .ref h0_rates, .ref h0_ways, oh0_6, .ref h0_mouths, .ref h0_persons, oh0_9, oh0_10, oh0_11, oh0_12, oh0_13, oh0_14, oh0_15, oh0_16, oh0_17, oh0_18, oh0_19, oh0_20, oh0_21, .ref h0_now, oh0_23, .ref h0_stay, .int v_stayMany, oh0_26, oh0_27, oh0_28, oh0_29, oh0_30, oh0_31, oh0_32, oh0_33, oh0_34, oh0_35, oh0_36, oh0_37])), (h0_parts, .inl (cy 2, 2, .inl v_parts)), (h0_rates, .inl (cy 2, 14, .inl v_rates)), (h0_ways, .inl (cy 2, 14, .inl v_ways)), (h0_mouths, .inl (cy 2, 2, .inl v_mouths)), (h0_persons, .inl (cy 2, 2, .inl v_persons)), (h0_now, .inl (cy 2, 60, .inl v_now)), (h0_stay, .inl (cy 2, 40, .inl v_stay))]) (isC := [0, 6]) (isR := [1, 2, 3, 4, 5, 7]) (pm := [6, 0, 1, 2, 3, 4, 7, 5]) hx hb hml hown hts (c9_isDown l D cy N h0 h0_now oh0_0 oh0_1 oh0_2 (.ref h0_parts) (.ref h0_rates) (.ref h0_ways) oh0_6 (.ref h0_mouths) (.ref h0_persons) oh0_9 oh0_10 oh0_11 oh0_12 oh0_13 oh0_14 oh0_15 oh0_16 oh0_17 oh0_18 oh0_19 oh0_20 oh0_21 oh0_23 (.ref h0_stay) (.int v_stayMany) oh0_26 oh0_27 oh0_28 oh0_29 oh0_30 oh0_31 oh0_32 oh0_33 oh0_34 oh0_35 oh0_36 oh0_37 p1 v_now r13 hc13) (cwV 1 hts gX9_enter_X9_isDown rfl rfl rfl (by decide +kernel) ⟨Nat.le_of_ble_eq_true rfl, Nat.le_of_ble_eq_true rfl⟩) hK hP hD hS hA rfl rfl rfl rfl rfl (by decide) rfl rfl rfl hl.1 (Nat.le_of_ble_eq_true rfl) dX9_enter_13 ⟨Nat.zero_le _, Nat.zero_le _⟩ rfl rfl (fun H locs hP hD hS => ?_)
    refine lv_if_ne (tgt := 34) hx hb dX9_enter_16 (by decide) (fun c16 => ?_) (fun c16 => ?_)
    · have hM := g_neg c16 hM
      refine lv_ldc (v := -1000000003) hx hb hown k197 dX9_enter_34 ?_
      obtain ⟨rfl, rfl⟩ := si2 hM
      exact hret _ _ _ _ _ dX9_enter_36 rfl rfl hP hD hS
    · have hM := g_pos c16 hM
      refine lv_aload_n hx hb dX9_enter_19 rfl (lv_at hl 0 rfl) ?_
      refine va_get (D := D) (ci := 9) (v := .int v_stayMany) (C := RX9) (T := TX9) (N := 38) hx hb hts iX9 hown hK hP 0 rfl rfl 25 (by decide) k159 (fun _ h9 => h9) rfl dX9_enter_20 ?_
      refine lv_if_eq (tgt := 34) hx hb dX9_enter_23 (by decide) (fun c23 => ?_) (fun c23 => ?_)
      · have hM := g_pos c23 hM
        refine lv_ldc (v := -1000000003) hx hb hown k197 dX9_enter_34 ?_
        obtain ⟨rfl, rfl⟩ := si2 hM
        exact hret _ _ _ _ _ dX9_enter_36 rfl rfl hP hD hS
      · have hM := g_neg c23 hM
        refine lv_aload_n hx hb dX9_enter_26 rfl (lv_at hl 0 rfl) ?_
        obtain ⟨r27, hc27, hM⟩ := ob1_some hM
        refine cl_vi (As := []) (rest := []) (ci := 9) (q0 := 0) (wr := [(h0_rates, .inl (cy 2, 14, .inl v_rates)), (h0_persons, .inl (cy 2, 2, .inl v_persons)), (h0_now, .inl (cy 2, 60, .inl v_now))]) (ws2 := [(h0, .inr (9, [oh0_0, oh0_1, oh0_2, .ref h0_parts, .ref h0_rates, .ref h0_ways, oh0_6, .ref h0_mouths, .ref h0_persons, oh0_9, oh0_10, oh0_11, oh0_12, oh0_13, oh0_14, oh0_15, oh0_16, oh0_17, oh0_18, oh0_19, oh0_20, oh0_21, .ref h0_now, oh0_23, .ref h0_stay, .int v_stayMany, oh0_26, oh0_27, oh0_28, oh0_29, oh0_30, oh0_31, oh0_32, oh0_33, oh0_34, oh0_35, oh0_36, oh0_37])), (h0_parts, .inl (cy 2, 2, .inl v_parts)), (h0_rates, .inl (cy 2, 14, .inl v_rates)), (h0_ways, .inl (cy 2, 14, .inl v_ways)), (h0_mouths, .inl (cy 2, 2, .inl v_mouths)), (h0_persons, .inl (cy 2, 2, .inl v_persons)), (h0_now, .inl (cy 2, 60, .inl v_now)), (h0_stay, .inl (cy 2, 40, .inl v_stay))]) (isC := [0, 1, 3, 4, 7]) (isR := [2, 5, 6]) (pm := [3, 4, 0, 5, 6, 1, 2, 7]) hx hb hml hown hts (c9_wrong l D cy N h0 h0_parts h0_ways h0_mouths h0_stay oh0_0 oh0_1 oh0_2 (.ref h0_rates) oh0_6 (.ref h0_persons) oh0_9 oh0_10 oh0_11 oh0_12 oh0_13 oh0_14 oh0_15 oh0_16 oh0_17 oh0_18 oh0_19 oh0_20 oh0_21 (.ref h0_now) oh0_23 oh0_26 oh0_27 oh0_28 oh0_29 oh0_30 oh0_31 oh0_32 oh0_33 oh0_34 oh0_35 oh0_36 oh0_37 v_stayMany v_parts v_ways v_mouths v_stay r27 hc27) (cwV 0 hts gX9_enter_X9_wrong rfl rfl rfl (by decide +kernel) ⟨Nat.le_of_ble_eq_true rfl, Nat.le_of_ble_eq_true rfl⟩) hK hP hD hS hA rfl rfl rfl rfl rfl (by decide) rfl rfl rfl hl.1 (Nat.le_of_ble_eq_true rfl) dX9_enter_27 ⟨Nat.zero_le _, Nat.zero_le _⟩ rfl rfl (fun H locs hP hD hS => ?_)
        refine lv_iconst (v := -1) hx hb dX9_enter_30 (by decide) ?_
        refine lv_icmp_eq (tgt := 37) hx hb dX9_enter_31 (by decide) (fun c31 => ?_) (fun c31 => ?_)
        · have hM := g_pos c31 hM
          refine lv_aload_n hx hb dX9_enter_37 rfl (lv_at hl 0 rfl) ?_
          refine lv_iload_n hx hb dX9_enter_38 rfl (lv_at hl 1 rfl) ?_
          refine lv_aload_n hx hb dX9_enter_39 rfl (lv_at hl 0 rfl) ?_
          refine va_get (D := D) (ci := 9) (v := .int v_stayMany) (C := RX9) (T := TX9) (N := 38) hx hb hts iX9 hown hK hP 0 rfl rfl 25 (by decide) k159 (fun _ h9 => h9) rfl dX9_enter_40 ?_
          refine lv_aload_n hx hb dX9_enter_43 rfl (lv_at hl 0 rfl) ?_
          obtain ⟨r44, hc44, hM⟩ := ob1_some hM
          refine cl_vi (As := []) (rest := [.int v_stayMany, .int p1, .ref h0]) (ci := 9) (q0 := 0) (wr := [(h0_parts, .inl (cy 2, 2, .inl v_parts)), (h0_ways, .inl (cy 2, 14, .inl v_ways)), (h0_mouths, .inl (cy 2, 2, .inl v_mouths)), (h0_persons, .inl (cy 2, 2, .inl v_persons)), (h0_now, .inl (cy 2, 60, .inl v_now))]) (ws2 := [(h0, .inr (9, [oh0_0, oh0_1, oh0_2, .ref h0_parts, .ref h0_rates, .ref h0_ways, oh0_6, .ref h0_mouths, .ref h0_persons, oh0_9, oh0_10, oh0_11, oh0_12, oh0_13, oh0_14, oh0_15, oh0_16, oh0_17, oh0_18, oh0_19, oh0_20, oh0_21, .ref h0_now, oh0_23, .ref h0_stay, .int v_stayMany, oh0_26, oh0_27, oh0_28, oh0_29, oh0_30, oh0_31, oh0_32, oh0_33, oh0_34, oh0_35, oh0_36, oh0_37])), (h0_parts, .inl (cy 2, 2, .inl v_parts)), (h0_rates, .inl (cy 2, 14, .inl v_rates)), (h0_ways, .inl (cy 2, 14, .inl v_ways)), (h0_mouths, .inl (cy 2, 2, .inl v_mouths)), (h0_persons, .inl (cy 2, 2, .inl v_persons)), (h0_now, .inl (cy 2, 60, .inl v_now)), (h0_stay, .inl (cy 2, 40, .inl v_stay))]) (isC := [0, 2, 7]) (isR := [1, 3, 4, 5, 6]) (pm := [5, 0, 6, 1, 2, 3, 4, 7]) hx hb hml hown hts (c9_stayTime l D cy N h0 h0_rates h0_stay oh0_0 oh0_1 oh0_2 (.ref h0_parts) (.ref h0_ways) oh0_6 (.ref h0_mouths) (.ref h0_persons) oh0_9 oh0_10 oh0_11 oh0_12 oh0_13 oh0_14 oh0_15 oh0_16 oh0_17 oh0_18 oh0_19 oh0_20 oh0_21 (.ref h0_now) oh0_23 oh0_26 oh0_27 oh0_28 oh0_29 oh0_30 oh0_31 oh0_32 oh0_33 oh0_34 oh0_35 oh0_36 oh0_37 v_stayMany v_rates v_stay r44 hc44) (cwV 0 hts gX9_enter_X9_stayTime rfl rfl rfl (by decide +kernel) ⟨Nat.le_of_ble_eq_true rfl, Nat.le_of_ble_eq_true rfl⟩) hK hP hD hS hA rfl rfl rfl rfl rfl (by decide) rfl rfl rfl hl.1 (Nat.le_of_ble_eq_true rfl) dX9_enter_44 ⟨Nat.zero_le _, Nat.zero_le _⟩ rfl rfl (fun H locs hP hD hS => ?_)
          obtain ⟨v_now_47, hc47, hM⟩ := ob1_some hM
          refine cl_vv (As := [.int p1, .int v_stayMany, .int r44]) (rest := []) (ci := 9) (q0 := 0) (wr := [(h0_parts, .inl (cy 2, 2, .inl v_parts)), (h0_rates, .inl (cy 2, 14, .inl v_rates)), (h0_ways, .inl (cy 2, 14, .inl v_ways)), (h0_mouths, .inl (cy 2, 2, .inl v_mouths)), (h0_persons, .inl (cy 2, 2, .inl v_persons)), (h0_stay, .inl (cy 2, 40, .inl v_stay))]) (ws2 := [(h0, .inr (9, [oh0_0, oh0_1, oh0_2, .ref h0_parts, .ref h0_rates, .ref h0_ways, oh0_6, .ref h0_mouths, .ref h0_persons, oh0_9, oh0_10, oh0_11, oh0_12, oh0_13, oh0_14, oh0_15, oh0_16, oh0_17, oh0_18, oh0_19, oh0_20, oh0_21, .ref h0_now, oh0_23, .ref h0_stay, .int v_stayMany, oh0_26, oh0_27, oh0_28, oh0_29, oh0_30, oh0_31, oh0_32, oh0_33, oh0_34, oh0_35, oh0_36, oh0_37])), (h0_parts, .inl (cy 2, 2, .inl v_parts)), (h0_rates, .inl (cy 2, 14, .inl v_rates)), (h0_ways, .inl (cy 2, 14, .inl v_ways)), (h0_mouths, .inl (cy 2, 2, .inl v_mouths)), (h0_persons, .inl (cy 2, 2, .inl v_persons)), (h0_now, .inl (cy 2, 60, .inl v_now_47)), (h0_stay, .inl (cy 2, 40, .inl v_stay))]) (isC := [0, 6]) (isR := [1, 2, 3, 4, 5, 7]) (pm := [6, 0, 1, 2, 3, 4, 7, 5]) hx hb hml hown hts (c9_goIn l D cy N h0 h0_now oh0_0 oh0_1 oh0_2 (.ref h0_parts) (.ref h0_rates) (.ref h0_ways) oh0_6 (.ref h0_mouths) (.ref h0_persons) oh0_9 oh0_10 oh0_11 oh0_12 oh0_13 oh0_14 oh0_15 oh0_16 oh0_17 oh0_18 oh0_19 oh0_20 oh0_21 oh0_23 (.ref h0_stay) (.int v_stayMany) oh0_26 oh0_27 oh0_28 oh0_29 oh0_30 oh0_31 oh0_32 oh0_33 oh0_34 oh0_35 oh0_36 oh0_37 p1 v_stayMany r44 v_now v_now_47 hc47) (cwV 3 hts gX9_enter_X9_goIn rfl rfl rfl (by decide +kernel) ⟨Nat.le_of_ble_eq_true rfl, Nat.le_of_ble_eq_true rfl⟩) hK hP hD hS hA rfl rfl rfl rfl rfl (by decide) rfl rfl rfl hl.1 (Nat.le_of_ble_eq_true rfl) dX9_enter_47 ⟨Nat.zero_le _, Nat.zero_le _⟩ rfl rfl (fun H locs hP hD hS => ?_)
          refine lv_aload_n hx hb dX9_enter_50 rfl (lv_at hl 0 rfl) ?_
          refine va_get (D := D) (ci := 9) (v := .ref h0_now) (C := RX9) (T := TX9) (N := 38) hx hb hts iX9 hown hK hP 0 rfl rfl 22 (by decide) k50 (fun _ h9 => h9) rfl dX9_enter_51 ?_
          refine lv_bipush (v := 13) hx hb dX9_enter_54 (by decide) ?_
          refine lv_iload_n hx hb dX9_enter_56 rfl (lv_at hl 1 rfl) ?_
          refine lv_iadd hx hb dX9_enter_57 ?_
          obtain ⟨h58, hM⟩ := gi_some hM
          refine va_iald hx hb hK hP 6 2 rfl rfl h58 dX9_enter_58 ?_
          obtain ⟨rfl, rfl⟩ := si2 hM
          exact hret _ _ _ _ _ dX9_enter_59 rfl rfl hP hD hS
        · have hM := g_neg c31 hM
          refine lv_ldc (v := -1000000003) hx hb hown k197 dX9_enter_34 ?_
          obtain ⟨rfl, rfl⟩ := si2 hM
          exact hret _ _ _ _ _ dX9_enter_36 rfl rfl hP hD hS
  · have hM := g_pos c5 hM
    refine lv_ldc (v := -1000000001) hx hb hown k180 dX9_enter_8 ?_
    obtain ⟨rfl, rfl⟩ := si2 hM
    exact hret _ _ _ _ _ dX9_enter_10 rfl rfl hP hD hS

-- ===== X9_grown grown (I)I =====
abbrev r9_grown : Room := { frames := 0, cells := 0, slots := 0, locals := 0 }
def f9_grown (N : Nat) (p1 : Int32) (v_interest : Nat → Int32) : Option Int32 :=
  gi (0 : Int32) 2 (if (lg_cmp ((p1.toInt64) + (((p1.toInt64) * ((v_interest (0 : Int32).toNatClampNeg).toInt64)) / (100 : Int64))) (999999999 : Int64)) ≤ (0 : Int32) then (some ((p1.toInt64) + (((p1.toInt64) * ((v_interest (0 : Int32).toNatClampNeg).toInt64)) / (100 : Int64))).toInt32) else (some (999999999 : Int32)))
set_option maxHeartbeats 4000000 in
set_option maxRecDepth 100000 in
theorem c9_grown (l : Launch) (D : va_G) (cy : Nat → ClassId) (N : Nat) (h0 h0_interest : Nat) (oh0_0 oh0_1 oh0_2 oh0_3 oh0_4 oh0_5 oh0_6 oh0_7 oh0_8 oh0_9 oh0_10 oh0_12 oh0_13 oh0_14 oh0_15 oh0_16 oh0_17 oh0_18 oh0_19 oh0_20 oh0_21 oh0_22 oh0_23 oh0_24 oh0_25 oh0_26 oh0_27 oh0_28 oh0_29 oh0_30 oh0_31 oh0_32 oh0_33 oh0_34 oh0_35 oh0_36 oh0_37 : Value) (p1 : Int32) (v_interest : Nat → Int32) (r : Int32) (hM : f9_grown N p1 v_interest = some r) (sz : Nat) : CTi l yX9_grown wsX9_grown r9_grown [.ref h0, .int p1] D cy sz [(h0, .inr (9, [oh0_0, oh0_1, oh0_2, oh0_3, oh0_4, oh0_5, oh0_6, oh0_7, oh0_8, oh0_9, oh0_10, .ref h0_interest, oh0_12, oh0_13, oh0_14, oh0_15, oh0_16, oh0_17, oh0_18, oh0_19, oh0_20, oh0_21, oh0_22, oh0_23, oh0_24, oh0_25, oh0_26, oh0_27, oh0_28, oh0_29, oh0_30, oh0_31, oh0_32, oh0_33, oh0_34, oh0_35, oh0_36, oh0_37])), (h0_interest, .inl (cy 2, 2, .inl v_interest))] [(h0, .inr (9, [oh0_0, oh0_1, oh0_2, oh0_3, oh0_4, oh0_5, oh0_6, oh0_7, oh0_8, oh0_9, oh0_10, .ref h0_interest, oh0_12, oh0_13, oh0_14, oh0_15, oh0_16, oh0_17, oh0_18, oh0_19, oh0_20, oh0_21, oh0_22, oh0_23, oh0_24, oh0_25, oh0_26, oh0_27, oh0_28, oh0_29, oh0_30, oh0_31, oh0_32, oh0_33, oh0_34, oh0_35, oh0_36, oh0_37])), (h0_interest, .inl (cy 2, 2, .inl v_interest))] r := by
  unfold f9_grown at hM
  refine ct_oi (cc := cX9_grown) (maxL := 4) (ty := .int) (by decide +kernel) rfl (Nat.le_of_ble_eq_true rfl) (lv0 := [(0, .ref h0), (1, .int p1)]) rfl ?_
  intro p e s m args below meth c A Q ls hx hb hts hown hml hK hP hD hS hA hret hl
  have hown : s.vm.findClass RX9 = some m.cls := hown
  have k38 := hts (.fieldLink RX9 38 "CaveYearsModel" "interest" "[I") (List.mem_of_getElem? (i := 1) rfl)
  have iX9 := (fun w h => (List.mem_cons_of_mem _ (List.mem_append_right _ h)) : ∀ w ∈ wsX90, w ∈ wsX9_grown)
  have k202 := hts (.constantLong RX9 202 (100)) (List.mem_of_getElem? (i := 2) rfl)
  have k204 := hts (.constantLong RX9 204 (999999999)) (List.mem_of_getElem? (i := 3) rfl)
  have k206 := hts (.constant RX9 206 (999999999)) (List.mem_of_getElem? (i := 4) rfl)
  refine lv_iload_n hx hb dX9_grown_0 rfl (lv_at hl 1 rfl) ?_
  refine lv_i2l (v := p1.toInt64) hx hb dX9_grown_1 rfl ?_
  refine lv_iload_n hx hb dX9_grown_2 rfl (lv_at hl 1 rfl) ?_
  refine lv_i2l (v := p1.toInt64) hx hb dX9_grown_3 rfl ?_
  refine lv_aload_n hx hb dX9_grown_4 rfl (lv_at hl 0 rfl) ?_
  refine va_get (D := D) (ci := 9) (v := .ref h0_interest) (C := RX9) (T := TX9) (N := 38) hx hb hts iX9 hown hK hP 0 rfl rfl 11 (by decide) k38 (fun _ h9 => h9) rfl dX9_grown_5 ?_
  refine lv_iconst (v := 0) hx hb dX9_grown_8 (by decide) ?_
  obtain ⟨h9, hM⟩ := gi_some hM
  refine va_iald hx hb hK hP 1 2 rfl rfl h9 dX9_grown_9 ?_
  refine lv_i2l (v := (v_interest (0 : Int32).toNatClampNeg).toInt64) hx hb dX9_grown_10 rfl ?_
  refine lv_lmul hx hb dX9_grown_11 ?_
  refine lv_ldc2 (v := 100) hx hb hown k202 dX9_grown_12 ?_
  refine lv_ldiv hx hb dX9_grown_15 (by decide) ?_
  refine lv_ladd hx hb dX9_grown_16 ?_
  refine lv_lstore_n (lv' := [(2, .long ((p1.toInt64) + (((p1.toInt64) * ((v_interest (0 : Int32).toNatClampNeg).toInt64)) / (100 : Int64)))), (0, .ref h0), (1, .int p1)]) hx hb dX9_grown_17 rfl hl (by decide) rfl (fun ls hl => ?_)
  refine lv_lload_n hx hb dX9_grown_18 rfl (lv_at hl 0 rfl) ?_
  refine lv_ldc2 (v := 999999999) hx hb hown k204 dX9_grown_19 ?_
  refine W.lcmp hx hb dX9_grown_22 ?_
  refine lv_if_le (tgt := 31) hx hb dX9_grown_23 (by decide) (fun c23 => ?_) (fun c23 => ?_)
  · have hM := g_pos c23 hM
    refine lv_lload_n hx hb dX9_grown_31 rfl (lv_at hl 0 rfl) ?_
    refine lv_l2i (v := ((p1.toInt64) + (((p1.toInt64) * ((v_interest (0 : Int32).toNatClampNeg).toInt64)) / (100 : Int64))).toInt32) hx hb dX9_grown_32 rfl ?_
    obtain rfl := si1 hM
    exact hret _ _ _ _ _ dX9_grown_33 rfl rfl hP hD hS
  · have hM := g_neg c23 hM
    refine lv_ldc (v := 999999999) hx hb hown k206 dX9_grown_26 ?_
    refine lv_goto (tgt := 33) hx hb dX9_grown_28 (by decide) ?_
    obtain rfl := si1 hM
    exact hret _ _ _ _ _ dX9_grown_33 rfl rfl hP hD hS

-- ===== X9_passBy passBy (I)V =====
abbrev r9_passBy : Room := { frames := 1, cells := 0, slots := 0, locals := 23 }
def f9_passBy_L32 (N : Nat) (v_persons : Nat → Int32) (v_interest : Nat → Int32) : Nat → Int32 → (Nat → Int32) → Option (Nat → Int32)
  | 0, _, _ => none
  | n + 1, x4_32, v_now_32 => gi (0 : Int32) 2 (if (v_persons (0 : Int32).toNatClampNeg) ≤ x4_32 then (some v_now_32) else (gi ((7 : Int32) + x4_32) 60 (ob1 (f9_grown N (v_now_32 ((7 : Int32) + x4_32).toNatClampNeg) v_interest) fun r63 => gi ((7 : Int32) + x4_32) 60 ((f9_passBy_L32 N v_persons v_interest n) (x4_32 + (1 : Int32)) (upd v_now_32 ((7 : Int32) + x4_32).toNatClampNeg r63)))))
def f9_passBy_L21 (N : Nat) (p1 : Int32) (v_persons : Nat → Int32) (v_interest : Nat → Int32) (v_now : Nat → Int32) : Nat → Int32 → (Nat → Int32) → Option (Nat → Int32)
  | 0, _, _ => none
  | n + 1, x3_21, v_now_21 => if (((v_now (0 : Int32).toNatClampNeg) + p1) / (60 : Int32)) < x3_21 then (some v_now_21) else (ob1 (f9_passBy_L32 N v_persons v_interest N (0 : Int32) v_now_21) fun v_now_e32 => (f9_passBy_L21 N p1 v_persons v_interest v_now n) (x3_21 + (1 : Int32)) v_now_e32)
def f9_passBy_J127 (N : Nat) (p1 : Int32) (v_now : Nat → Int32) (x3_81 : Int32) (v_now_81 : Nat → Int32) (rec81 : Int32 → (Nat → Int32) → Option (Nat → Int32)) (s0_127 : Int32) : Option (Nat → Int32) :=
  gi ((1 : Int32) + x3_81) 60 (if ((v_now (0 : Int32).toNatClampNeg) + p1) ≤ s0_127 then (gi ((1 : Int32) + x3_81) 60 (rec81 (x3_81 + (1 : Int32)) (upd v_now_81 ((1 : Int32) + x3_81).toNatClampNeg ((v_now_81 ((1 : Int32) + x3_81).toNatClampNeg) + (0 : Int32))))) else (gi ((1 : Int32) + x3_81) 60 (rec81 (x3_81 + (1 : Int32)) (upd v_now_81 ((1 : Int32) + x3_81).toNatClampNeg ((v_now_81 ((1 : Int32) + x3_81).toNatClampNeg) + (((v_now (0 : Int32).toNatClampNeg) + p1) - s0_127))))))
def f9_passBy_L81 (N : Nat) (p1 : Int32) (v_persons : Nat → Int32) (v_now : Nat → Int32) : Nat → Int32 → (Nat → Int32) → Option (Nat → Int32)
  | 0, _, _ => none
  | n + 1, x3_81, v_now_81 => gi (0 : Int32) 2 (if (v_persons (0 : Int32).toNatClampNeg) ≤ x3_81 then (some v_now_81) else (gi ((13 : Int32) + x3_81) 60 (gi (0 : Int32) 60 (if (v_now_81 ((13 : Int32) + x3_81).toNatClampNeg) ≤ (v_now_81 (0 : Int32).toNatClampNeg) then (gi (0 : Int32) 60 (f9_passBy_J127 N p1 v_now x3_81 v_now_81 (f9_passBy_L81 N p1 v_persons v_now n) (v_now_81 (0 : Int32).toNatClampNeg))) else (gi ((13 : Int32) + x3_81) 60 (f9_passBy_J127 N p1 v_now x3_81 v_now_81 (f9_passBy_L81 N p1 v_persons v_now n) (v_now_81 ((13 : Int32) + x3_81).toNatClampNeg)))))))
def f9_passBy (N : Nat) (p1 : Int32) (v_persons : Nat → Int32) (v_interest : Nat → Int32) (v_now : Nat → Int32) : Option (Nat → Int32) :=
  gi (0 : Int32) 60 (gi (0 : Int32) 60 (ob1 (f9_passBy_L21 N p1 v_persons v_interest v_now N (((v_now (0 : Int32).toNatClampNeg) / (60 : Int32)) + (1 : Int32)) v_now) fun v_now_e21 => ob1 (f9_passBy_L81 N p1 v_persons v_now N (0 : Int32) v_now_e21) fun v_now_e81 => gi (0 : Int32) 60 (some (upd v_now_e81 (0 : Int32).toNatClampNeg ((v_now (0 : Int32).toNatClampNeg) + p1)))))
set_option maxHeartbeats 4000000 in
set_option maxRecDepth 100000 in
theorem c9_passBy (l : Launch) (D : va_G) (cy : Nat → ClassId) (N : Nat) (h0 h0_persons h0_interest h0_now : Nat) (oh0_0 oh0_1 oh0_2 oh0_3 oh0_4 oh0_5 oh0_6 oh0_7 oh0_9 oh0_10 oh0_12 oh0_13 oh0_14 oh0_15 oh0_16 oh0_17 oh0_18 oh0_19 oh0_20 oh0_21 oh0_23 oh0_24 oh0_25 oh0_26 oh0_27 oh0_28 oh0_29 oh0_30 oh0_31 oh0_32 oh0_33 oh0_34 oh0_35 oh0_36 oh0_37 : Value) (p1 : Int32) (v_persons : Nat → Int32) (v_interest : Nat → Int32) (v_now : Nat → Int32) (nv_now : Nat → Int32) (hM : f9_passBy N p1 v_persons v_interest v_now = some nv_now) (sz : Nat) : CTv l yX9_passBy wsX9_passBy r9_passBy [.ref h0, .int p1] D cy sz [(h0, .inr (9, [oh0_0, oh0_1, oh0_2, oh0_3, oh0_4, oh0_5, oh0_6, oh0_7, .ref h0_persons, oh0_9, oh0_10, .ref h0_interest, oh0_12, oh0_13, oh0_14, oh0_15, oh0_16, oh0_17, oh0_18, oh0_19, oh0_20, oh0_21, .ref h0_now, oh0_23, oh0_24, oh0_25, oh0_26, oh0_27, oh0_28, oh0_29, oh0_30, oh0_31, oh0_32, oh0_33, oh0_34, oh0_35, oh0_36, oh0_37])), (h0_persons, .inl (cy 2, 2, .inl v_persons)), (h0_interest, .inl (cy 2, 2, .inl v_interest)), (h0_now, .inl (cy 2, 60, .inl v_now))] [(h0, .inr (9, [oh0_0, oh0_1, oh0_2, oh0_3, oh0_4, oh0_5, oh0_6, oh0_7, .ref h0_persons, oh0_9, oh0_10, .ref h0_interest, oh0_12, oh0_13, oh0_14, oh0_15, oh0_16, oh0_17, oh0_18, oh0_19, oh0_20, oh0_21, .ref h0_now, oh0_23, oh0_24, oh0_25, oh0_26, oh0_27, oh0_28, oh0_29, oh0_30, oh0_31, oh0_32, oh0_33, oh0_34, oh0_35, oh0_36, oh0_37])), (h0_persons, .inl (cy 2, 2, .inl v_persons)), (h0_interest, .inl (cy 2, 2, .inl v_interest)), (h0_now, .inl (cy 2, 60, .inl nv_now))] := by
  unfold f9_passBy at hM
  refine ct_ov (cc := cX9_passBy) (maxL := 5)  (by decide +kernel) rfl (Nat.le_of_ble_eq_true rfl) (lv0 := [(0, .ref h0), (1, .int p1)]) rfl ?_
  intro p e s m args below meth c A Q ls hx hb hts hown hml hK hP hD hS hA hret hl
  have hown : s.vm.findClass RX9 = some m.cls := hown
  have k50 := hts (.fieldLink RX9 50 "CaveYearsModel" "now" "[I") (List.mem_of_getElem? (i := 1) rfl)
  have iX9 := (fun w h => (List.mem_cons_of_mem _ (List.mem_append_right _ h)) : ∀ w ∈ wsX90, w ∈ wsX9_passBy)
  have k29 := hts (.fieldLink RX9 29 "CaveYearsModel" "persons" "[I") (List.mem_of_getElem? (i := 2) rfl)
  refine lv_aload_n hx hb dX9_passBy_0 rfl (lv_at hl 0 rfl) ?_
  refine va_get (D := D) (ci := 9) (v := .ref h0_now) (C := RX9) (T := TX9) (N := 38) hx hb hts iX9 hown hK hP 0 rfl rfl 22 (by decide) k50 (fun _ h9 => h9) rfl dX9_passBy_1 ?_
  refine lv_iconst (v := 0) hx hb dX9_passBy_4 (by decide) ?_
  obtain ⟨h5, hM⟩ := gi_some hM
  refine va_iald hx hb hK hP 3 2 rfl rfl h5 dX9_passBy_5 ?_
  refine lv_iload_n hx hb dX9_passBy_6 rfl (lv_at hl 1 rfl) ?_
  refine lv_iadd hx hb dX9_passBy_7 ?_
  refine lv_istore_n (lv' := [(2, .int ((v_now (0 : Int32).toNatClampNeg) + p1)), (0, .ref h0), (1, .int p1)]) hx hb dX9_passBy_8 rfl hl (by decide) rfl (fun ls hl => ?_)
  refine lv_aload_n hx hb dX9_passBy_9 rfl (lv_at hl 1 rfl) ?_
  refine va_get (D := D) (ci := 9) (v := .ref h0_now) (C := RX9) (T := TX9) (N := 38) hx hb hts iX9 hown hK hP 0 rfl rfl 22 (by decide) k50 (fun _ h9 => h9) rfl dX9_passBy_10 ?_
  refine lv_iconst (v := 0) hx hb dX9_passBy_13 (by decide) ?_
  obtain ⟨h14, hM⟩ := gi_some hM
  refine va_iald hx hb hK hP 3 2 rfl rfl h14 dX9_passBy_14 ?_
  refine lv_bipush (v := 60) hx hb dX9_passBy_15 (by decide) ?_
  refine lv_idiv hx hb dX9_passBy_17 (by decide) ?_
  refine lv_iconst (v := 1) hx hb dX9_passBy_18 (by decide) ?_
  refine lv_iadd hx hb dX9_passBy_19 ?_
  refine lv_istore_n (lv' := [(3, .int (((v_now (0 : Int32).toNatClampNeg) / (60 : Int32)) + (1 : Int32))), (2, .int ((v_now (0 : Int32).toNatClampNeg) + p1)), (0, .ref h0), (1, .int p1)]) hx hb dX9_passBy_20 rfl hl (by decide) rfl (fun ls hl => ?_)
  have L21 : ∀ (n : Nat) (x3_21 : Int32) (v_now_21 : Nat → Int32) (v_now_e21 : Nat → Int32) (H : Heap) (locs : List Loc) (ls : Array Slot), f9_passBy_L21 N p1 v_persons v_interest v_now n x3_21 v_now_21 = some v_now_e21 → va_P D vwCl [(h0, .inr (9, [oh0_0, oh0_1, oh0_2, oh0_3, oh0_4, oh0_5, oh0_6, oh0_7, .ref h0_persons, oh0_9, oh0_10, .ref h0_interest, oh0_12, oh0_13, oh0_14, oh0_15, oh0_16, oh0_17, oh0_18, oh0_19, oh0_20, oh0_21, .ref h0_now, oh0_23, oh0_24, oh0_25, oh0_26, oh0_27, oh0_28, oh0_29, oh0_30, oh0_31, oh0_32, oh0_33, oh0_34, oh0_35, oh0_36, oh0_37])), (h0_persons, .inl (cy 2, 2, .inl v_persons)), (h0_interest, .inl (cy 2, 2, .inl v_interest)), (h0_now, .inl (cy 2, 60, .inl v_now_21))] H → va_D A [(h0, .inr (9, [oh0_0, oh0_1, oh0_2, oh0_3, oh0_4, oh0_5, oh0_6, oh0_7, .ref h0_persons, oh0_9, oh0_10, .ref h0_interest, oh0_12, oh0_13, oh0_14, oh0_15, oh0_16, oh0_17, oh0_18, oh0_19, oh0_20, oh0_21, .ref h0_now, oh0_23, oh0_24, oh0_25, oh0_26, oh0_27, oh0_28, oh0_29, oh0_30, oh0_31, oh0_32, oh0_33, oh0_34, oh0_35, oh0_36, oh0_37])), (h0_persons, .inl (cy 2, 2, .inl v_persons)), (h0_interest, .inl (cy 2, 2, .inl v_interest)), (h0_now, .inl (cy 2, 60, .inl v_now_21))] → va_S A s.heap H locs → lv_has ls 5 [(0, .ref h0), (2, .int ((v_now (0 : Int32).toNatClampNeg) + p1)), (3, .int x3_21)] → (∀ (H : Heap) (locs : List Loc) (ls : Array Slot), va_P D vwCl [(h0, .inr (9, [oh0_0, oh0_1, oh0_2, oh0_3, oh0_4, oh0_5, oh0_6, oh0_7, .ref h0_persons, oh0_9, oh0_10, .ref h0_interest, oh0_12, oh0_13, oh0_14, oh0_15, oh0_16, oh0_17, oh0_18, oh0_19, oh0_20, oh0_21, .ref h0_now, oh0_23, oh0_24, oh0_25, oh0_26, oh0_27, oh0_28, oh0_29, oh0_30, oh0_31, oh0_32, oh0_33, oh0_34, oh0_35, oh0_36, oh0_37])), (h0_persons, .inl (cy 2, 2, .inl v_persons)), (h0_interest, .inl (cy 2, 2, .inl v_interest)), (h0_now, .inl (cy 2, 60, .inl v_now_e21))] H → va_D A [(h0, .inr (9, [oh0_0, oh0_1, oh0_2, oh0_3, oh0_4, oh0_5, oh0_6, oh0_7, .ref h0_persons, oh0_9, oh0_10, .ref h0_interest, oh0_12, oh0_13, oh0_14, oh0_15, oh0_16, oh0_17, oh0_18, oh0_19, oh0_20, oh0_21, .ref h0_now, oh0_23, oh0_24, oh0_25, oh0_26, oh0_27, oh0_28, oh0_29, oh0_30, oh0_31, oh0_32, oh0_33, oh0_34, oh0_35, oh0_36, oh0_37])), (h0_persons, .inl (cy 2, 2, .inl v_persons)), (h0_interest, .inl (cy 2, 2, .inl v_interest)), (h0_now, .inl (cy 2, 60, .inl v_now_e21))] → va_S A s.heap H locs → lv_has ls 5 [(0, .ref h0), (2, .int ((v_now (0 : Int32).toNatClampNeg) + p1))] → W p l e r9_passBy s m args below meth c H locs 0 0 Q (F0 m 79 ls [])) → W p l e r9_passBy s m args below meth c H locs 0 0 Q (F0 m 21 ls []) := by
    intro n
    induction n with
    | zero =>
      intro x3_21 v_now_21 v_now_e21 H locs ls hM
      exact absurd hM (by simp [f9_passBy_L21])
    | succ n ih =>
      intro x3_21 v_now_21 v_now_e21 H locs ls hM hP hD hS hl K
      rw [f9_passBy_L21] at hM
      refine lv_iload_n hx hb dX9_passBy_21 rfl (lv_at hl 2 rfl) ?_
      refine lv_iload_n hx hb dX9_passBy_22 rfl (lv_at hl 1 rfl) ?_
      refine lv_bipush (v := 60) hx hb dX9_passBy_23 (by decide) ?_
      refine lv_idiv hx hb dX9_passBy_25 (by decide) ?_
      refine lv_icmp_gt (tgt := 79) hx hb dX9_passBy_26 (by decide) (fun c26 => ?_) (fun c26 => ?_)
      · have hM := g_pos c26 hM
        obtain rfl := si1 hM
        exact K _ _ _ hP hD hS (lv_sub hl [0, 1] rfl)
      · have hM := g_neg c26 hM
        refine lv_iconst (v := 0) hx hb dX9_passBy_29 (by decide) ?_
        refine lv_istore (lv' := [(4, .int (0 : Int32)), (0, .ref h0), (2, .int ((v_now (0 : Int32).toNatClampNeg) + p1)), (3, .int x3_21)]) hx hb dX9_passBy_30 hl (by decide) rfl (fun ls hl => ?_)
        have L32 : ∀ (n : Nat) (x4_32 : Int32) (v_now_32 : Nat → Int32) (v_now_e32 : Nat → Int32) (H : Heap) (locs : List Loc) (ls : Array Slot), f9_passBy_L32 N v_persons v_interest n x4_32 v_now_32 = some v_now_e32 → va_P D vwCl [(h0, .inr (9, [oh0_0, oh0_1, oh0_2, oh0_3, oh0_4, oh0_5, oh0_6, oh0_7, .ref h0_persons, oh0_9, oh0_10, .ref h0_interest, oh0_12, oh0_13, oh0_14, oh0_15, oh0_16, oh0_17, oh0_18, oh0_19, oh0_20, oh0_21, .ref h0_now, oh0_23, oh0_24, oh0_25, oh0_26, oh0_27, oh0_28, oh0_29, oh0_30, oh0_31, oh0_32, oh0_33, oh0_34, oh0_35, oh0_36, oh0_37])), (h0_persons, .inl (cy 2, 2, .inl v_persons)), (h0_interest, .inl (cy 2, 2, .inl v_interest)), (h0_now, .inl (cy 2, 60, .inl v_now_32))] H → va_D A [(h0, .inr (9, [oh0_0, oh0_1, oh0_2, oh0_3, oh0_4, oh0_5, oh0_6, oh0_7, .ref h0_persons, oh0_9, oh0_10, .ref h0_interest, oh0_12, oh0_13, oh0_14, oh0_15, oh0_16, oh0_17, oh0_18, oh0_19, oh0_20, oh0_21, .ref h0_now, oh0_23, oh0_24, oh0_25, oh0_26, oh0_27, oh0_28, oh0_29, oh0_30, oh0_31, oh0_32, oh0_33, oh0_34, oh0_35, oh0_36, oh0_37])), (h0_persons, .inl (cy 2, 2, .inl v_persons)), (h0_interest, .inl (cy 2, 2, .inl v_interest)), (h0_now, .inl (cy 2, 60, .inl v_now_32))] → va_S A s.heap H locs → lv_has ls 5 [(0, .ref h0), (2, .int ((v_now (0 : Int32).toNatClampNeg) + p1)), (3, .int x3_21), (4, .int x4_32)] → (∀ (H : Heap) (locs : List Loc) (ls : Array Slot), va_P D vwCl [(h0, .inr (9, [oh0_0, oh0_1, oh0_2, oh0_3, oh0_4, oh0_5, oh0_6, oh0_7, .ref h0_persons, oh0_9, oh0_10, .ref h0_interest, oh0_12, oh0_13, oh0_14, oh0_15, oh0_16, oh0_17, oh0_18, oh0_19, oh0_20, oh0_21, .ref h0_now, oh0_23, oh0_24, oh0_25, oh0_26, oh0_27, oh0_28, oh0_29, oh0_30, oh0_31, oh0_32, oh0_33, oh0_34, oh0_35, oh0_36, oh0_37])), (h0_persons, .inl (cy 2, 2, .inl v_persons)), (h0_interest, .inl (cy 2, 2, .inl v_interest)), (h0_now, .inl (cy 2, 60, .inl v_now_e32))] H → va_D A [(h0, .inr (9, [oh0_0, oh0_1, oh0_2, oh0_3, oh0_4, oh0_5, oh0_6, oh0_7, .ref h0_persons, oh0_9, oh0_10, .ref h0_interest, oh0_12, oh0_13, oh0_14, oh0_15, oh0_16, oh0_17, oh0_18, oh0_19, oh0_20, oh0_21, .ref h0_now, oh0_23, oh0_24, oh0_25, oh0_26, oh0_27, oh0_28, oh0_29, oh0_30, oh0_31, oh0_32, oh0_33, oh0_34, oh0_35, oh0_36, oh0_37])), (h0_persons, .inl (cy 2, 2, .inl v_persons)), (h0_interest, .inl (cy 2, 2, .inl v_interest)), (h0_now, .inl (cy 2, 60, .inl v_now_e32))] → va_S A s.heap H locs → lv_has ls 5 [(0, .ref h0), (2, .int ((v_now (0 : Int32).toNatClampNeg) + p1)), (3, .int x3_21)] → W p l e r9_passBy s m args below meth c H locs 0 0 Q (F0 m 73 ls [])) → W p l e r9_passBy s m args below meth c H locs 0 0 Q (F0 m 32 ls []) := by
          intro n
          induction n with
          | zero =>
            intro x4_32 v_now_32 v_now_e32 H locs ls hM
            exact absurd hM (by simp [f9_passBy_L32])
          | succ n ih =>
            intro x4_32 v_now_32 v_now_e32 H locs ls hM hP hD hS hl K
            rw [f9_passBy_L32] at hM
            refine lv_iload hx hb dX9_passBy_32 (lv_at hl 3 rfl) ?_
            refine lv_aload_n hx hb dX9_passBy_34 rfl (lv_at hl 0 rfl) ?_
            refine va_get (D := D) (ci := 9) (v := .ref h0_persons) (C := RX9) (T := TX9) (N := 38) hx hb hts iX9 hown hK hP 0 rfl rfl 8 (by decide) k29 (fun _ h9 => h9) rfl dX9_passBy_35 ?_
            refine lv_iconst (v := 0) hx hb dX9_passBy_38 (by decide) ?_
            obtain ⟨h39, hM⟩ := gi_some hM
            refine va_iald hx hb hK hP 1 2 rfl rfl h39 dX9_passBy_39 ?_
            refine lv_icmp_ge (tgt := 73) hx hb dX9_passBy_40 (by decide) (fun c40 => ?_) (fun c40 => ?_)
            · have hM := g_pos c40 hM
              obtain rfl := si1 hM
              exact K _ _ _ hP hD hS (lv_sub hl [0, 1, 2] rfl)
            · have hM := g_neg c40 hM
              refine lv_aload_n hx hb dX9_passBy_43 rfl (lv_at hl 0 rfl) ?_
              refine va_get (D := D) (ci := 9) (v := .ref h0_now) (C := RX9) (T := TX9) (N := 38) hx hb hts iX9 hown hK hP 0 rfl rfl 22 (by decide) k50 (fun _ h9 => h9) rfl dX9_passBy_44 ?_
              refine lv_bipush (v := 7) hx hb dX9_passBy_47 (by decide) ?_
              refine lv_iload hx hb dX9_passBy_49 (lv_at hl 3 rfl) ?_
              refine lv_iadd hx hb dX9_passBy_51 ?_
              refine lv_aload_n hx hb dX9_passBy_52 rfl (lv_at hl 0 rfl) ?_
              refine lv_aload_n hx hb dX9_passBy_53 rfl (lv_at hl 0 rfl) ?_
              refine va_get (D := D) (ci := 9) (v := .ref h0_now) (C := RX9) (T := TX9) (N := 38) hx hb hts iX9 hown hK hP 0 rfl rfl 22 (by decide) k50 (fun _ h9 => h9) rfl dX9_passBy_54 ?_
              refine lv_bipush (v := 7) hx hb dX9_passBy_57 (by decide) ?_
              refine lv_iload hx hb dX9_passBy_59 (lv_at hl 3 rfl) ?_
              refine lv_iadd hx hb dX9_passBy_61 ?_
              obtain ⟨h62, hM⟩ := gi_some hM
              refine va_iald hx hb hK hP 3 2 rfl rfl h62 dX9_passBy_62 ?_
              obtain ⟨r63, hc63, hM⟩ := ob1_some hM
              refine cl_vi (As := [.int (v_now_32 ((7 : Int32) + x4_32).toNatClampNeg)]) (rest := [.int ((7 : Int32) + x4_32), .ref h0_now]) (ci := 9) (q0 := 0) (wr := [(h0_persons, .inl (cy 2, 2, .inl v_persons)), (h0_now, .inl (cy 2, 60, .inl v_now_32))]) (ws2 := [(h0, .inr (9, [oh0_0, oh0_1, oh0_2, oh0_3, oh0_4, oh0_5, oh0_6, oh0_7, .ref h0_persons, oh0_9, oh0_10, .ref h0_interest, oh0_12, oh0_13, oh0_14, oh0_15, oh0_16, oh0_17, oh0_18, oh0_19, oh0_20, oh0_21, .ref h0_now, oh0_23, oh0_24, oh0_25, oh0_26, oh0_27, oh0_28, oh0_29, oh0_30, oh0_31, oh0_32, oh0_33, oh0_34, oh0_35, oh0_36, oh0_37])), (h0_persons, .inl (cy 2, 2, .inl v_persons)), (h0_interest, .inl (cy 2, 2, .inl v_interest)), (h0_now, .inl (cy 2, 60, .inl v_now_32))]) (isC := [0, 2]) (isR := [1, 3]) (pm := [2, 0, 3, 1]) hx hb hml hown hts (c9_grown l D cy N h0 h0_interest oh0_0 oh0_1 oh0_2 oh0_3 oh0_4 oh0_5 oh0_6 oh0_7 (.ref h0_persons) oh0_9 oh0_10 oh0_12 oh0_13 oh0_14 oh0_15 oh0_16 oh0_17 oh0_18 oh0_19 oh0_20 oh0_21 (.ref h0_now) oh0_23 oh0_24 oh0_25 oh0_26 oh0_27 oh0_28 oh0_29 oh0_30 oh0_31 oh0_32 oh0_33 oh0_34 oh0_35 oh0_36 oh0_37 (v_now_32 ((7 : Int32) + x4_32).toNatClampNeg) v_interest r63 hc63) (cwV 1 hts gX9_passBy_X9_grown rfl rfl rfl (by decide +kernel) ⟨Nat.le_of_ble_eq_true rfl, Nat.le_of_ble_eq_true rfl⟩) hK hP hD hS hA rfl rfl rfl rfl rfl (by decide) rfl rfl rfl hl.1 (Nat.le_of_ble_eq_true rfl) dX9_passBy_63 ⟨Nat.zero_le _, Nat.zero_le _⟩ rfl rfl (fun H locs hP hD hS => ?_)
              obtain ⟨h66, hM⟩ := gi_some hM
              refine va_iast hx hb hK hP hD hS 3 2 rfl rfl h66 dX9_passBy_66 (fun H locs hP hD hS => ?_)
              have hP : va_P D vwCl [(h0, .inr (9, [oh0_0, oh0_1, oh0_2, oh0_3, oh0_4, oh0_5, oh0_6, oh0_7, .ref h0_persons, oh0_9, oh0_10, .ref h0_interest, oh0_12, oh0_13, oh0_14, oh0_15, oh0_16, oh0_17, oh0_18, oh0_19, oh0_20, oh0_21, .ref h0_now, oh0_23, oh0_24, oh0_25, oh0_26, oh0_27, oh0_28, oh0_29, oh0_30, oh0_31, oh0_32, oh0_33, oh0_34, oh0_35, oh0_36, oh0_37])), (h0_persons, .inl (cy 2, 2, .inl v_persons)), (h0_interest, .inl (cy 2, 2, .inl v_interest)), (h0_now, .inl (cy 2, 60, .inl (upd v_now_32 ((7 : Int32) + x4_32).toNatClampNeg r63)))] H := hP
              have hD : va_D A [(h0, .inr (9, [oh0_0, oh0_1, oh0_2, oh0_3, oh0_4, oh0_5, oh0_6, oh0_7, .ref h0_persons, oh0_9, oh0_10, .ref h0_interest, oh0_12, oh0_13, oh0_14, oh0_15, oh0_16, oh0_17, oh0_18, oh0_19, oh0_20, oh0_21, .ref h0_now, oh0_23, oh0_24, oh0_25, oh0_26, oh0_27, oh0_28, oh0_29, oh0_30, oh0_31, oh0_32, oh0_33, oh0_34, oh0_35, oh0_36, oh0_37])), (h0_persons, .inl (cy 2, 2, .inl v_persons)), (h0_interest, .inl (cy 2, 2, .inl v_interest)), (h0_now, .inl (cy 2, 60, .inl (upd v_now_32 ((7 : Int32) + x4_32).toNatClampNeg r63)))] := hD
              refine lv_iinc (v := x4_32 + (1 : Int32)) (lv' := [(4, .int (x4_32 + (1 : Int32))), (0, .ref h0), (2, .int ((v_now (0 : Int32).toNatClampNeg) + p1)), (3, .int x3_21)]) hx hb dX9_passBy_67 hl (k := 3) rfl rfl (by decide) rfl (fun ls hl => ?_)
              refine lv_goto (tgt := 32) hx hb dX9_passBy_70 (by decide) ?_
              exact ih (x4_32 + (1 : Int32)) (upd v_now_32 ((7 : Int32) + x4_32).toNatClampNeg r63) v_now_e32 _ _ _ hM hP hD hS (lv_sub hl [1, 2, 3, 0] rfl) K
        obtain ⟨v_now_e32, hL32, hM⟩ := ob1_some hM
        refine L32 N (0 : Int32) v_now_21 v_now_e32 _ _ _ hL32 hP hD hS (lv_sub hl [1, 2, 3, 0] rfl) ?_
        intro H locs ls hP hD hS hl
        refine lv_iinc (v := x3_21 + (1 : Int32)) (lv' := [(3, .int (x3_21 + (1 : Int32))), (0, .ref h0), (2, .int ((v_now (0 : Int32).toNatClampNeg) + p1))]) hx hb dX9_passBy_73 hl (k := 2) rfl rfl (by decide) rfl (fun ls hl => ?_)
        refine lv_goto (tgt := 21) hx hb dX9_passBy_76 (by decide) ?_
        exact ih (x3_21 + (1 : Int32)) v_now_e32 v_now_e21 _ _ _ hM hP hD hS (lv_sub hl [1, 2, 0] rfl) K
  obtain ⟨v_now_e21, hL21, hM⟩ := ob1_some hM
  refine L21 N (((v_now (0 : Int32).toNatClampNeg) / (60 : Int32)) + (1 : Int32)) v_now v_now_e21 _ _ _ hL21 hP hD hS (lv_sub hl [2, 1, 0] rfl) ?_
  intro H locs ls hP hD hS hl
  refine lv_iconst (v := 0) hx hb dX9_passBy_79 (by decide) ?_
  refine lv_istore_n (lv' := [(3, .int (0 : Int32)), (0, .ref h0), (2, .int ((v_now (0 : Int32).toNatClampNeg) + p1))]) hx hb dX9_passBy_80 rfl hl (by decide) rfl (fun ls hl => ?_)
  have L81 : ∀ (n : Nat) (x3_81 : Int32) (v_now_81 : Nat → Int32) (v_now_e81 : Nat → Int32) (H : Heap) (locs : List Loc) (ls : Array Slot), f9_passBy_L81 N p1 v_persons v_now n x3_81 v_now_81 = some v_now_e81 → va_P D vwCl [(h0, .inr (9, [oh0_0, oh0_1, oh0_2, oh0_3, oh0_4, oh0_5, oh0_6, oh0_7, .ref h0_persons, oh0_9, oh0_10, .ref h0_interest, oh0_12, oh0_13, oh0_14, oh0_15, oh0_16, oh0_17, oh0_18, oh0_19, oh0_20, oh0_21, .ref h0_now, oh0_23, oh0_24, oh0_25, oh0_26, oh0_27, oh0_28, oh0_29, oh0_30, oh0_31, oh0_32, oh0_33, oh0_34, oh0_35, oh0_36, oh0_37])), (h0_persons, .inl (cy 2, 2, .inl v_persons)), (h0_interest, .inl (cy 2, 2, .inl v_interest)), (h0_now, .inl (cy 2, 60, .inl v_now_81))] H → va_D A [(h0, .inr (9, [oh0_0, oh0_1, oh0_2, oh0_3, oh0_4, oh0_5, oh0_6, oh0_7, .ref h0_persons, oh0_9, oh0_10, .ref h0_interest, oh0_12, oh0_13, oh0_14, oh0_15, oh0_16, oh0_17, oh0_18, oh0_19, oh0_20, oh0_21, .ref h0_now, oh0_23, oh0_24, oh0_25, oh0_26, oh0_27, oh0_28, oh0_29, oh0_30, oh0_31, oh0_32, oh0_33, oh0_34, oh0_35, oh0_36, oh0_37])), (h0_persons, .inl (cy 2, 2, .inl v_persons)), (h0_interest, .inl (cy 2, 2, .inl v_interest)), (h0_now, .inl (cy 2, 60, .inl v_now_81))] → va_S A s.heap H locs → lv_has ls 5 [(0, .ref h0), (2, .int ((v_now (0 : Int32).toNatClampNeg) + p1)), (3, .int x3_81)] → (∀ (H : Heap) (locs : List Loc) (ls : Array Slot), va_P D vwCl [(h0, .inr (9, [oh0_0, oh0_1, oh0_2, oh0_3, oh0_4, oh0_5, oh0_6, oh0_7, .ref h0_persons, oh0_9, oh0_10, .ref h0_interest, oh0_12, oh0_13, oh0_14, oh0_15, oh0_16, oh0_17, oh0_18, oh0_19, oh0_20, oh0_21, .ref h0_now, oh0_23, oh0_24, oh0_25, oh0_26, oh0_27, oh0_28, oh0_29, oh0_30, oh0_31, oh0_32, oh0_33, oh0_34, oh0_35, oh0_36, oh0_37])), (h0_persons, .inl (cy 2, 2, .inl v_persons)), (h0_interest, .inl (cy 2, 2, .inl v_interest)), (h0_now, .inl (cy 2, 60, .inl v_now_e81))] H → va_D A [(h0, .inr (9, [oh0_0, oh0_1, oh0_2, oh0_3, oh0_4, oh0_5, oh0_6, oh0_7, .ref h0_persons, oh0_9, oh0_10, .ref h0_interest, oh0_12, oh0_13, oh0_14, oh0_15, oh0_16, oh0_17, oh0_18, oh0_19, oh0_20, oh0_21, .ref h0_now, oh0_23, oh0_24, oh0_25, oh0_26, oh0_27, oh0_28, oh0_29, oh0_30, oh0_31, oh0_32, oh0_33, oh0_34, oh0_35, oh0_36, oh0_37])), (h0_persons, .inl (cy 2, 2, .inl v_persons)), (h0_interest, .inl (cy 2, 2, .inl v_interest)), (h0_now, .inl (cy 2, 60, .inl v_now_e81))] → va_S A s.heap H locs → lv_has ls 5 [(0, .ref h0), (2, .int ((v_now (0 : Int32).toNatClampNeg) + p1))] → W p l e r9_passBy s m args below meth c H locs 0 0 Q (F0 m 160 ls [])) → W p l e r9_passBy s m args below meth c H locs 0 0 Q (F0 m 81 ls []) := by
    intro n
    induction n with
    | zero =>
      intro x3_81 v_now_81 v_now_e81 H locs ls hM
      exact absurd hM (by simp [f9_passBy_L81])
    | succ n ih =>
      intro x3_81 v_now_81 v_now_e81 H locs ls hM hP hD hS hl K
      rw [f9_passBy_L81] at hM
      refine lv_iload_n hx hb dX9_passBy_81 rfl (lv_at hl 2 rfl) ?_
      refine lv_aload_n hx hb dX9_passBy_82 rfl (lv_at hl 0 rfl) ?_
      refine va_get (D := D) (ci := 9) (v := .ref h0_persons) (C := RX9) (T := TX9) (N := 38) hx hb hts iX9 hown hK hP 0 rfl rfl 8 (by decide) k29 (fun _ h9 => h9) rfl dX9_passBy_83 ?_
      refine lv_iconst (v := 0) hx hb dX9_passBy_86 (by decide) ?_
      obtain ⟨h87, hM⟩ := gi_some hM
      refine va_iald hx hb hK hP 1 2 rfl rfl h87 dX9_passBy_87 ?_
      refine lv_icmp_ge (tgt := 160) hx hb dX9_passBy_88 (by decide) (fun c88 => ?_) (fun c88 => ?_)
      · have hM := g_pos c88 hM
        obtain rfl := si1 hM
        exact K _ _ _ hP hD hS (lv_sub hl [0, 1] rfl)
      · have hM := g_neg c88 hM
        refine lv_aload_n hx hb dX9_passBy_91 rfl (lv_at hl 0 rfl) ?_
        refine va_get (D := D) (ci := 9) (v := .ref h0_now) (C := RX9) (T := TX9) (N := 38) hx hb hts iX9 hown hK hP 0 rfl rfl 22 (by decide) k50 (fun _ h9 => h9) rfl dX9_passBy_92 ?_
        refine lv_bipush (v := 13) hx hb dX9_passBy_95 (by decide) ?_
        refine lv_iload_n hx hb dX9_passBy_97 rfl (lv_at hl 2 rfl) ?_
        refine lv_iadd hx hb dX9_passBy_98 ?_
        obtain ⟨h99, hM⟩ := gi_some hM
        refine va_iald hx hb hK hP 3 2 rfl rfl h99 dX9_passBy_99 ?_
        refine lv_aload_n hx hb dX9_passBy_100 rfl (lv_at hl 0 rfl) ?_
        refine va_get (D := D) (ci := 9) (v := .ref h0_now) (C := RX9) (T := TX9) (N := 38) hx hb hts iX9 hown hK hP 0 rfl rfl 22 (by decide) k50 (fun _ h9 => h9) rfl dX9_passBy_101 ?_
        refine lv_iconst (v := 0) hx hb dX9_passBy_104 (by decide) ?_
        obtain ⟨h105, hM⟩ := gi_some hM
        refine va_iald hx hb hK hP 3 2 rfl rfl h105 dX9_passBy_105 ?_
        have K127 : ∀ (s0_127 : Int32) (H : Heap) (locs : List Loc) (ls : Array Slot), f9_passBy_J127 N p1 v_now x3_81 v_now_81 (f9_passBy_L81 N p1 v_persons v_now n) s0_127 = some v_now_e81 → va_P D vwCl [(h0, .inr (9, [oh0_0, oh0_1, oh0_2, oh0_3, oh0_4, oh0_5, oh0_6, oh0_7, .ref h0_persons, oh0_9, oh0_10, .ref h0_interest, oh0_12, oh0_13, oh0_14, oh0_15, oh0_16, oh0_17, oh0_18, oh0_19, oh0_20, oh0_21, .ref h0_now, oh0_23, oh0_24, oh0_25, oh0_26, oh0_27, oh0_28, oh0_29, oh0_30, oh0_31, oh0_32, oh0_33, oh0_34, oh0_35, oh0_36, oh0_37])), (h0_persons, .inl (cy 2, 2, .inl v_persons)), (h0_interest, .inl (cy 2, 2, .inl v_interest)), (h0_now, .inl (cy 2, 60, .inl v_now_81))] H → va_D A [(h0, .inr (9, [oh0_0, oh0_1, oh0_2, oh0_3, oh0_4, oh0_5, oh0_6, oh0_7, .ref h0_persons, oh0_9, oh0_10, .ref h0_interest, oh0_12, oh0_13, oh0_14, oh0_15, oh0_16, oh0_17, oh0_18, oh0_19, oh0_20, oh0_21, .ref h0_now, oh0_23, oh0_24, oh0_25, oh0_26, oh0_27, oh0_28, oh0_29, oh0_30, oh0_31, oh0_32, oh0_33, oh0_34, oh0_35, oh0_36, oh0_37])), (h0_persons, .inl (cy 2, 2, .inl v_persons)), (h0_interest, .inl (cy 2, 2, .inl v_interest)), (h0_now, .inl (cy 2, 60, .inl v_now_81))] → va_S A s.heap H locs → lv_has ls 5 [(0, .ref h0), (2, .int ((v_now (0 : Int32).toNatClampNeg) + p1)), (3, .int x3_81)] → W p l e r9_passBy s m args below meth c H locs 0 0 Q (F0 m 127 ls [.int s0_127]) := by
          intro s0_127 H locs ls hM hP hD hS hl
          unfold f9_passBy_J127 at hM
          refine lv_istore (lv' := [(4, .int s0_127), (0, .ref h0), (2, .int ((v_now (0 : Int32).toNatClampNeg) + p1)), (3, .int x3_81)]) hx hb dX9_passBy_127 hl (by decide) rfl (fun ls hl => ?_)
          refine lv_aload_n hx hb dX9_passBy_129 rfl (lv_at hl 1 rfl) ?_
          refine va_get (D := D) (ci := 9) (v := .ref h0_now) (C := RX9) (T := TX9) (N := 38) hx hb hts iX9 hown hK hP 0 rfl rfl 22 (by decide) k50 (fun _ h9 => h9) rfl dX9_passBy_130 ?_
          refine lv_iconst (v := 1) hx hb dX9_passBy_133 (by decide) ?_
          refine lv_iload_n hx hb dX9_passBy_134 rfl (lv_at hl 3 rfl) ?_
          refine lv_iadd hx hb dX9_passBy_135 ?_
          refine lv_dup2_11 hx hb dX9_passBy_136 rfl rfl ?_
          obtain ⟨h137, hM⟩ := gi_some hM
          refine va_iald hx hb hK hP 3 2 rfl rfl h137 dX9_passBy_137 ?_
          refine lv_iload_n hx hb dX9_passBy_138 rfl (lv_at hl 2 rfl) ?_
          refine lv_iload hx hb dX9_passBy_139 (lv_at hl 0 rfl) ?_
          refine lv_icmp_le (tgt := 151) hx hb dX9_passBy_141 (by decide) (fun c141 => ?_) (fun c141 => ?_)
          · have hM := g_pos c141 hM
            refine lv_iconst (v := 0) hx hb dX9_passBy_151 (by decide) ?_
            refine lv_iadd hx hb dX9_passBy_152 ?_
            obtain ⟨h153, hM⟩ := gi_some hM
            refine va_iast hx hb hK hP hD hS 3 2 rfl rfl h153 dX9_passBy_153 (fun H locs hP hD hS => ?_)
            have hP : va_P D vwCl [(h0, .inr (9, [oh0_0, oh0_1, oh0_2, oh0_3, oh0_4, oh0_5, oh0_6, oh0_7, .ref h0_persons, oh0_9, oh0_10, .ref h0_interest, oh0_12, oh0_13, oh0_14, oh0_15, oh0_16, oh0_17, oh0_18, oh0_19, oh0_20, oh0_21, .ref h0_now, oh0_23, oh0_24, oh0_25, oh0_26, oh0_27, oh0_28, oh0_29, oh0_30, oh0_31, oh0_32, oh0_33, oh0_34, oh0_35, oh0_36, oh0_37])), (h0_persons, .inl (cy 2, 2, .inl v_persons)), (h0_interest, .inl (cy 2, 2, .inl v_interest)), (h0_now, .inl (cy 2, 60, .inl (upd v_now_81 ((1 : Int32) + x3_81).toNatClampNeg ((v_now_81 ((1 : Int32) + x3_81).toNatClampNeg) + (0 : Int32)))))] H := hP
            have hD : va_D A [(h0, .inr (9, [oh0_0, oh0_1, oh0_2, oh0_3, oh0_4, oh0_5, oh0_6, oh0_7, .ref h0_persons, oh0_9, oh0_10, .ref h0_interest, oh0_12, oh0_13, oh0_14, oh0_15, oh0_16, oh0_17, oh0_18, oh0_19, oh0_20, oh0_21, .ref h0_now, oh0_23, oh0_24, oh0_25, oh0_26, oh0_27, oh0_28, oh0_29, oh0_30, oh0_31, oh0_32, oh0_33, oh0_34, oh0_35, oh0_36, oh0_37])), (h0_persons, .inl (cy 2, 2, .inl v_persons)), (h0_interest, .inl (cy 2, 2, .inl v_interest)), (h0_now, .inl (cy 2, 60, .inl (upd v_now_81 ((1 : Int32) + x3_81).toNatClampNeg ((v_now_81 ((1 : Int32) + x3_81).toNatClampNeg) + (0 : Int32)))))] := hD
            refine lv_iinc (v := x3_81 + (1 : Int32)) (lv' := [(3, .int (x3_81 + (1 : Int32))), (4, .int s0_127), (0, .ref h0), (2, .int ((v_now (0 : Int32).toNatClampNeg) + p1))]) hx hb dX9_passBy_154 hl (k := 3) rfl rfl (by decide) rfl (fun ls hl => ?_)
            refine lv_goto (tgt := 81) hx hb dX9_passBy_157 (by decide) ?_
            exact ih (x3_81 + (1 : Int32)) (upd v_now_81 ((1 : Int32) + x3_81).toNatClampNeg ((v_now_81 ((1 : Int32) + x3_81).toNatClampNeg) + (0 : Int32))) v_now_e81 _ _ _ hM hP hD hS (lv_sub hl [2, 3, 0] rfl) K
          · have hM := g_neg c141 hM
            refine lv_iload_n hx hb dX9_passBy_144 rfl (lv_at hl 2 rfl) ?_
            refine lv_iload hx hb dX9_passBy_145 (lv_at hl 0 rfl) ?_
            refine lv_isub hx hb dX9_passBy_147 ?_
            refine lv_goto (tgt := 152) hx hb dX9_passBy_148 (by decide) ?_
            refine lv_iadd hx hb dX9_passBy_152 ?_
            obtain ⟨h153, hM⟩ := gi_some hM
            refine va_iast hx hb hK hP hD hS 3 2 rfl rfl h153 dX9_passBy_153 (fun H locs hP hD hS => ?_)
            have hP : va_P D vwCl [(h0, .inr (9, [oh0_0, oh0_1, oh0_2, oh0_3, oh0_4, oh0_5, oh0_6, oh0_7, .ref h0_persons, oh0_9, oh0_10, .ref h0_interest, oh0_12, oh0_13, oh0_14, oh0_15, oh0_16, oh0_17, oh0_18, oh0_19, oh0_20, oh0_21, .ref h0_now, oh0_23, oh0_24, oh0_25, oh0_26, oh0_27, oh0_28, oh0_29, oh0_30, oh0_31, oh0_32, oh0_33, oh0_34, oh0_35, oh0_36, oh0_37])), (h0_persons, .inl (cy 2, 2, .inl v_persons)), (h0_interest, .inl (cy 2, 2, .inl v_interest)), (h0_now, .inl (cy 2, 60, .inl (upd v_now_81 ((1 : Int32) + x3_81).toNatClampNeg ((v_now_81 ((1 : Int32) + x3_81).toNatClampNeg) + (((v_now (0 : Int32).toNatClampNeg) + p1) - s0_127)))))] H := hP
            have hD : va_D A [(h0, .inr (9, [oh0_0, oh0_1, oh0_2, oh0_3, oh0_4, oh0_5, oh0_6, oh0_7, .ref h0_persons, oh0_9, oh0_10, .ref h0_interest, oh0_12, oh0_13, oh0_14, oh0_15, oh0_16, oh0_17, oh0_18, oh0_19, oh0_20, oh0_21, .ref h0_now, oh0_23, oh0_24, oh0_25, oh0_26, oh0_27, oh0_28, oh0_29, oh0_30, oh0_31, oh0_32, oh0_33, oh0_34, oh0_35, oh0_36, oh0_37])), (h0_persons, .inl (cy 2, 2, .inl v_persons)), (h0_interest, .inl (cy 2, 2, .inl v_interest)), (h0_now, .inl (cy 2, 60, .inl (upd v_now_81 ((1 : Int32) + x3_81).toNatClampNeg ((v_now_81 ((1 : Int32) + x3_81).toNatClampNeg) + (((v_now (0 : Int32).toNatClampNeg) + p1) - s0_127)))))] := hD
            refine lv_iinc (v := x3_81 + (1 : Int32)) (lv' := [(3, .int (x3_81 + (1 : Int32))), (4, .int s0_127), (0, .ref h0), (2, .int ((v_now (0 : Int32).toNatClampNeg) + p1))]) hx hb dX9_passBy_154 hl (k := 3) rfl rfl (by decide) rfl (fun ls hl => ?_)
            refine lv_goto (tgt := 81) hx hb dX9_passBy_157 (by decide) ?_
            exact ih (x3_81 + (1 : Int32)) (upd v_now_81 ((1 : Int32) + x3_81).toNatClampNeg ((v_now_81 ((1 : Int32) + x3_81).toNatClampNeg) + (((v_now (0 : Int32).toNatClampNeg) + p1) - s0_127))) v_now_e81 _ _ _ hM hP hD hS (lv_sub hl [2, 3, 0] rfl) K
        refine lv_icmp_le (tgt := 121) hx hb dX9_passBy_106 (by decide) (fun c106 => ?_) (fun c106 => ?_)
        · have hM := g_pos c106 hM
          refine lv_aload_n hx hb dX9_passBy_121 rfl (lv_at hl 0 rfl) ?_
          refine va_get (D := D) (ci := 9) (v := .ref h0_now) (C := RX9) (T := TX9) (N := 38) hx hb hts iX9 hown hK hP 0 rfl rfl 22 (by decide) k50 (fun _ h9 => h9) rfl dX9_passBy_122 ?_
          refine lv_iconst (v := 0) hx hb dX9_passBy_125 (by decide) ?_
          obtain ⟨h126, hM⟩ := gi_some hM
          refine va_iald hx hb hK hP 3 2 rfl rfl h126 dX9_passBy_126 ?_
          exact K127 (v_now_81 (0 : Int32).toNatClampNeg) _ _ _ hM hP hD hS (lv_sub hl [0, 1, 2] rfl)
        · have hM := g_neg c106 hM
          refine lv_aload_n hx hb dX9_passBy_109 rfl (lv_at hl 0 rfl) ?_
          refine va_get (D := D) (ci := 9) (v := .ref h0_now) (C := RX9) (T := TX9) (N := 38) hx hb hts iX9 hown hK hP 0 rfl rfl 22 (by decide) k50 (fun _ h9 => h9) rfl dX9_passBy_110 ?_
          refine lv_bipush (v := 13) hx hb dX9_passBy_113 (by decide) ?_
          refine lv_iload_n hx hb dX9_passBy_115 rfl (lv_at hl 2 rfl) ?_
          refine lv_iadd hx hb dX9_passBy_116 ?_
          obtain ⟨h117, hM⟩ := gi_some hM
          refine va_iald hx hb hK hP 3 2 rfl rfl h117 dX9_passBy_117 ?_
          refine lv_goto (tgt := 127) hx hb dX9_passBy_118 (by decide) ?_
          exact K127 (v_now_81 ((13 : Int32) + x3_81).toNatClampNeg) _ _ _ hM hP hD hS (lv_sub hl [0, 1, 2] rfl)
  obtain ⟨v_now_e81, hL81, hM⟩ := ob1_some hM
  refine L81 N (0 : Int32) v_now_e21 v_now_e81 _ _ _ hL81 hP hD hS (lv_sub hl [1, 2, 0] rfl) ?_
  intro H locs ls hP hD hS hl
  refine lv_aload_n hx hb dX9_passBy_160 rfl (lv_at hl 0 rfl) ?_
  refine va_get (D := D) (ci := 9) (v := .ref h0_now) (C := RX9) (T := TX9) (N := 38) hx hb hts iX9 hown hK hP 0 rfl rfl 22 (by decide) k50 (fun _ h9 => h9) rfl dX9_passBy_161 ?_
  refine lv_iconst (v := 0) hx hb dX9_passBy_164 (by decide) ?_
  refine lv_iload_n hx hb dX9_passBy_165 rfl (lv_at hl 1 rfl) ?_
  obtain ⟨h166, hM⟩ := gi_some hM
  refine va_iast hx hb hK hP hD hS 3 2 rfl rfl h166 dX9_passBy_166 (fun H locs hP hD hS => ?_)
  have hP : va_P D vwCl [(h0, .inr (9, [oh0_0, oh0_1, oh0_2, oh0_3, oh0_4, oh0_5, oh0_6, oh0_7, .ref h0_persons, oh0_9, oh0_10, .ref h0_interest, oh0_12, oh0_13, oh0_14, oh0_15, oh0_16, oh0_17, oh0_18, oh0_19, oh0_20, oh0_21, .ref h0_now, oh0_23, oh0_24, oh0_25, oh0_26, oh0_27, oh0_28, oh0_29, oh0_30, oh0_31, oh0_32, oh0_33, oh0_34, oh0_35, oh0_36, oh0_37])), (h0_persons, .inl (cy 2, 2, .inl v_persons)), (h0_interest, .inl (cy 2, 2, .inl v_interest)), (h0_now, .inl (cy 2, 60, .inl (upd v_now_e81 (0 : Int32).toNatClampNeg ((v_now (0 : Int32).toNatClampNeg) + p1))))] H := hP
  have hD : va_D A [(h0, .inr (9, [oh0_0, oh0_1, oh0_2, oh0_3, oh0_4, oh0_5, oh0_6, oh0_7, .ref h0_persons, oh0_9, oh0_10, .ref h0_interest, oh0_12, oh0_13, oh0_14, oh0_15, oh0_16, oh0_17, oh0_18, oh0_19, oh0_20, oh0_21, .ref h0_now, oh0_23, oh0_24, oh0_25, oh0_26, oh0_27, oh0_28, oh0_29, oh0_30, oh0_31, oh0_32, oh0_33, oh0_34, oh0_35, oh0_36, oh0_37])), (h0_persons, .inl (cy 2, 2, .inl v_persons)), (h0_interest, .inl (cy 2, 2, .inl v_interest)), (h0_now, .inl (cy 2, 60, .inl (upd v_now_e81 (0 : Int32).toNatClampNeg ((v_now (0 : Int32).toNatClampNeg) + p1))))] := hD
  obtain rfl := si1 hM
  exact hret _ _ _ _ dX9_passBy_167 hP hD hS

-- ===== X9_pass pass (I)I =====
abbrev r9_pass : Room := { frames := 2, cells := 0, slots := 0, locals := 47 }
def f9_pass (N : Nat) (p1 : Int32) (v_persons : Nat → Int32) (v_interest : Nat → Int32) (v_now : Nat → Int32) : Option (Int32 × (Nat → Int32)) :=
  ob1 (f9_in N p1 (1 : Int32) (9999 : Int32)) fun r5 => if r5 = (0 : Int32) then (some ((-1000000002 : Int32), v_now)) else (gi (0 : Int32) 60 (if ((v_now (0 : Int32).toNatClampNeg) + p1) ≤ (9999999 : Int32) then (ob1 (f9_passBy N p1 v_persons v_interest v_now) fun v_now_32 => gi (0 : Int32) 60 (some ((v_now_32 (0 : Int32).toNatClampNeg), v_now_32))) else (some ((-1000000004 : Int32), v_now))))
set_option maxHeartbeats 4000000 in
set_option maxRecDepth 100000 in
theorem c9_pass (l : Launch) (D : va_G) (cy : Nat → ClassId) (N : Nat) (h0 h0_persons h0_interest h0_now : Nat) (oh0_0 oh0_1 oh0_2 oh0_3 oh0_4 oh0_5 oh0_6 oh0_7 oh0_9 oh0_10 oh0_12 oh0_13 oh0_14 oh0_15 oh0_16 oh0_17 oh0_18 oh0_19 oh0_20 oh0_21 oh0_23 oh0_24 oh0_25 oh0_26 oh0_27 oh0_28 oh0_29 oh0_30 oh0_31 oh0_32 oh0_33 oh0_34 oh0_35 oh0_36 oh0_37 : Value) (p1 : Int32) (v_persons : Nat → Int32) (v_interest : Nat → Int32) (v_now : Nat → Int32) (r : Int32) (nv_now : Nat → Int32) (hM : f9_pass N p1 v_persons v_interest v_now = some (r, nv_now)) (sz : Nat) : CTi l yX9_pass wsX9_pass r9_pass [.ref h0, .int p1] D cy sz [(h0, .inr (9, [oh0_0, oh0_1, oh0_2, oh0_3, oh0_4, oh0_5, oh0_6, oh0_7, .ref h0_persons, oh0_9, oh0_10, .ref h0_interest, oh0_12, oh0_13, oh0_14, oh0_15, oh0_16, oh0_17, oh0_18, oh0_19, oh0_20, oh0_21, .ref h0_now, oh0_23, oh0_24, oh0_25, oh0_26, oh0_27, oh0_28, oh0_29, oh0_30, oh0_31, oh0_32, oh0_33, oh0_34, oh0_35, oh0_36, oh0_37])), (h0_persons, .inl (cy 2, 2, .inl v_persons)), (h0_interest, .inl (cy 2, 2, .inl v_interest)), (h0_now, .inl (cy 2, 60, .inl v_now))] [(h0, .inr (9, [oh0_0, oh0_1, oh0_2, oh0_3, oh0_4, oh0_5, oh0_6, oh0_7, .ref h0_persons, oh0_9, oh0_10, .ref h0_interest, oh0_12, oh0_13, oh0_14, oh0_15, oh0_16, oh0_17, oh0_18, oh0_19, oh0_20, oh0_21, .ref h0_now, oh0_23, oh0_24, oh0_25, oh0_26, oh0_27, oh0_28, oh0_29, oh0_30, oh0_31, oh0_32, oh0_33, oh0_34, oh0_35, oh0_36, oh0_37])), (h0_persons, .inl (cy 2, 2, .inl v_persons)), (h0_interest, .inl (cy 2, 2, .inl v_interest)), (h0_now, .inl (cy 2, 60, .inl nv_now))] r := by
  unfold f9_pass at hM
  refine ct_oi (cc := cX9_pass) (maxL := 2) (ty := .int) (by decide +kernel) rfl (Nat.le_of_ble_eq_true rfl) (lv0 := [(0, .ref h0), (1, .int p1)]) rfl ?_
  intro p e s m args below meth c A Q ls hx hb hts hown hml hK hP hD hS hA hret hl
  have hown : s.vm.findClass RX9 = some m.cls := hown
  have k50 := hts (.fieldLink RX9 50 "CaveYearsModel" "now" "[I") (List.mem_of_getElem? (i := 2) rfl)
  have iX9 := (fun w h => (List.mem_cons_of_mem _ (List.mem_append_right _ h)) : ∀ w ∈ wsX90, w ∈ wsX9_pass)
  have k210 := hts (.constant RX9 210 (9999999)) (List.mem_of_getElem? (i := 3) rfl)
  have k103 := hts (.constant RX9 103 (-1000000004)) (List.mem_of_getElem? (i := 4) rfl)
  have k99 := hts (.constant RX9 99 (-1000000002)) (List.mem_of_getElem? (i := 1) rfl)
  refine lv_iload_n hx hb dX9_pass_0 rfl (lv_at hl 1 rfl) ?_
  refine lv_iconst (v := 1) hx hb dX9_pass_1 (by decide) ?_
  refine lv_sipush (v := 9999) hx hb dX9_pass_2 (by decide) ?_
  obtain ⟨r5, hc5, hM⟩ := ob1_some hM
  refine cl_si (As := [.int p1, .int (1 : Int32), .int (9999 : Int32)]) (rest := []) (wr := [(h0, .inr (9, [oh0_0, oh0_1, oh0_2, oh0_3, oh0_4, oh0_5, oh0_6, oh0_7, .ref h0_persons, oh0_9, oh0_10, .ref h0_interest, oh0_12, oh0_13, oh0_14, oh0_15, oh0_16, oh0_17, oh0_18, oh0_19, oh0_20, oh0_21, .ref h0_now, oh0_23, oh0_24, oh0_25, oh0_26, oh0_27, oh0_28, oh0_29, oh0_30, oh0_31, oh0_32, oh0_33, oh0_34, oh0_35, oh0_36, oh0_37])), (h0_persons, .inl (cy 2, 2, .inl v_persons)), (h0_interest, .inl (cy 2, 2, .inl v_interest)), (h0_now, .inl (cy 2, 60, .inl v_now))]) (ws2 := [(h0, .inr (9, [oh0_0, oh0_1, oh0_2, oh0_3, oh0_4, oh0_5, oh0_6, oh0_7, .ref h0_persons, oh0_9, oh0_10, .ref h0_interest, oh0_12, oh0_13, oh0_14, oh0_15, oh0_16, oh0_17, oh0_18, oh0_19, oh0_20, oh0_21, .ref h0_now, oh0_23, oh0_24, oh0_25, oh0_26, oh0_27, oh0_28, oh0_29, oh0_30, oh0_31, oh0_32, oh0_33, oh0_34, oh0_35, oh0_36, oh0_37])), (h0_persons, .inl (cy 2, 2, .inl v_persons)), (h0_interest, .inl (cy 2, 2, .inl v_interest)), (h0_now, .inl (cy 2, 60, .inl v_now))]) (isC := []) (isR := [0, 1, 2, 3]) (pm := [0, 1, 2, 3]) hx hb hml hown hts (c9_in l D cy N p1 (1 : Int32) (9999 : Int32) r5 hc5) (va_cwS 3 hts gX9_pass_X9_in rfl rfl rfl (by decide +kernel) ⟨Nat.le_of_ble_eq_true rfl, Nat.le_of_ble_eq_true rfl⟩) hK hP hD hS hA rfl rfl rfl (by decide) rfl rfl rfl hl.1 (Nat.le_of_ble_eq_true rfl) dX9_pass_5 ⟨Nat.zero_le _, Nat.zero_le _⟩ rfl rfl (fun H locs hP hD hS => ?_)
  refine lv_if_ne (tgt := 14) hx hb dX9_pass_8 (by decide) (fun c8 => ?_) (fun c8 => ?_)
  · have hM := g_neg c8 hM
    refine lv_aload_n hx hb dX9_pass_14 rfl (lv_at hl 0 rfl) ?_
    refine va_get (D := D) (ci := 9) (v := .ref h0_now) (C := RX9) (T := TX9) (N := 38) hx hb hts iX9 hown hK hP 0 rfl rfl 22 (by decide) k50 (fun _ h9 => h9) rfl dX9_pass_15 ?_
    refine lv_iconst (v := 0) hx hb dX9_pass_18 (by decide) ?_
    obtain ⟨h19, hM⟩ := gi_some hM
    refine va_iald hx hb hK hP 3 2 rfl rfl h19 dX9_pass_19 ?_
    refine lv_iload_n hx hb dX9_pass_20 rfl (lv_at hl 1 rfl) ?_
    refine lv_iadd hx hb dX9_pass_21 ?_
    refine lv_ldc (v := 9999999) hx hb hown k210 dX9_pass_22 ?_
    refine lv_icmp_le (tgt := 30) hx hb dX9_pass_24 (by decide) (fun c24 => ?_) (fun c24 => ?_)
    · have hM := g_pos c24 hM
      refine lv_aload_n hx hb dX9_pass_30 rfl (lv_at hl 0 rfl) ?_
      refine lv_iload_n hx hb dX9_pass_31 rfl (lv_at hl 1 rfl) ?_
      obtain ⟨v_now_32, hc32, hM⟩ := ob1_some hM
      refine cl_vv (As := [.int p1]) (rest := []) (ci := 9) (q0 := 0) (wr := []) (ws2 := [(h0, .inr (9, [oh0_0, oh0_1, oh0_2, oh0_3, oh0_4, oh0_5, oh0_6, oh0_7, .ref h0_persons, oh0_9, oh0_10, .ref h0_interest, oh0_12, oh0_13, oh0_14, oh0_15, oh0_16, oh0_17, oh0_18, oh0_19, oh0_20, oh0_21, .ref h0_now, oh0_23, oh0_24, oh0_25, oh0_26, oh0_27, oh0_28, oh0_29, oh0_30, oh0_31, oh0_32, oh0_33, oh0_34, oh0_35, oh0_36, oh0_37])), (h0_persons, .inl (cy 2, 2, .inl v_persons)), (h0_interest, .inl (cy 2, 2, .inl v_interest)), (h0_now, .inl (cy 2, 60, .inl v_now_32))]) (isC := [0, 1, 2, 3]) (isR := []) (pm := [0, 1, 2, 3]) hx hb hml hown hts (c9_passBy l D cy N h0 h0_persons h0_interest h0_now oh0_0 oh0_1 oh0_2 oh0_3 oh0_4 oh0_5 oh0_6 oh0_7 oh0_9 oh0_10 oh0_12 oh0_13 oh0_14 oh0_15 oh0_16 oh0_17 oh0_18 oh0_19 oh0_20 oh0_21 oh0_23 oh0_24 oh0_25 oh0_26 oh0_27 oh0_28 oh0_29 oh0_30 oh0_31 oh0_32 oh0_33 oh0_34 oh0_35 oh0_36 oh0_37 p1 v_persons v_interest v_now v_now_32 hc32) (cwV 1 hts gX9_pass_X9_passBy rfl rfl rfl (by decide +kernel) ⟨Nat.le_of_ble_eq_true rfl, Nat.le_of_ble_eq_true rfl⟩) hK hP hD hS hA rfl rfl rfl rfl rfl (by decide) rfl rfl rfl hl.1 (Nat.le_of_ble_eq_true rfl) dX9_pass_32 ⟨Nat.zero_le _, Nat.zero_le _⟩ rfl rfl (fun H locs hP hD hS => ?_)
      refine lv_aload_n hx hb dX9_pass_35 rfl (lv_at hl 0 rfl) ?_
      refine va_get (D := D) (ci := 9) (v := .ref h0_now) (C := RX9) (T := TX9) (N := 38) hx hb hts iX9 hown hK hP 0 rfl rfl 22 (by decide) k50 (fun _ h9 => h9) rfl dX9_pass_36 ?_
      refine lv_iconst (v := 0) hx hb dX9_pass_39 (by decide) ?_
      obtain ⟨h40, hM⟩ := gi_some hM
      refine va_iald hx hb hK hP 3 2 rfl rfl h40 dX9_pass_40 ?_
      obtain ⟨rfl, rfl⟩ := si2 hM
      exact hret _ _ _ _ _ dX9_pass_41 rfl rfl hP hD hS
    · have hM := g_neg c24 hM
      refine lv_ldc (v := -1000000004) hx hb hown k103 dX9_pass_27 ?_
      obtain ⟨rfl, rfl⟩ := si2 hM
      exact hret _ _ _ _ _ dX9_pass_29 rfl rfl hP hD hS
  · have hM := g_pos c8 hM
    refine lv_ldc (v := -1000000002) hx hb hown k99 dX9_pass_11 ?_
    obtain ⟨rfl, rfl⟩ := si2 hM
    exact hret _ _ _ _ _ dX9_pass_13 rfl rfl hP hD hS

-- ===== X9_draw draw (I)I =====
abbrev r9_draw : Room := { frames := 0, cells := 0, slots := 0, locals := 0 }
def f9_draw (N : Nat) (p1 : Int32) (v_seed : Int32) : Option (Int32 × Int32) :=
  gz p1 (some ((((((((v_seed.toInt64) * (1103515245 : Int64)) + (12345 : Int64)) - (((v_seed.toInt64) * (1103515245 : Int64)) + (12345 : Int64)) / (2147483648 : Int64) * (2147483648 : Int64)).toInt32) / (65536 : Int32)) - ((((((v_seed.toInt64) * (1103515245 : Int64)) + (12345 : Int64)) - (((v_seed.toInt64) * (1103515245 : Int64)) + (12345 : Int64)) / (2147483648 : Int64) * (2147483648 : Int64)).toInt32) / (65536 : Int32)) / p1 * p1), ((((v_seed.toInt64) * (1103515245 : Int64)) + (12345 : Int64)) - (((v_seed.toInt64) * (1103515245 : Int64)) + (12345 : Int64)) / (2147483648 : Int64) * (2147483648 : Int64)).toInt32))
set_option maxHeartbeats 4000000 in
set_option maxRecDepth 100000 in
theorem c9_draw (l : Launch) (D : va_G) (cy : Nat → ClassId) (N : Nat) (h0 : Nat) (oh0_1 oh0_2 oh0_3 oh0_4 oh0_5 oh0_6 oh0_7 oh0_8 oh0_9 oh0_10 oh0_11 oh0_12 oh0_13 oh0_14 oh0_15 oh0_16 oh0_17 oh0_18 oh0_19 oh0_20 oh0_21 oh0_22 oh0_23 oh0_24 oh0_25 oh0_26 oh0_27 oh0_28 oh0_29 oh0_30 oh0_31 oh0_32 oh0_33 oh0_34 oh0_35 oh0_36 oh0_37 : Value) (p1 : Int32) (v_seed : Int32) (r : Int32) (nv_seed : Int32) (hM : f9_draw N p1 v_seed = some (r, nv_seed)) (sz : Nat) : CTi l yX9_draw wsX9_draw r9_draw [.ref h0, .int p1] D cy sz [(h0, .inr (9, [.int v_seed, oh0_1, oh0_2, oh0_3, oh0_4, oh0_5, oh0_6, oh0_7, oh0_8, oh0_9, oh0_10, oh0_11, oh0_12, oh0_13, oh0_14, oh0_15, oh0_16, oh0_17, oh0_18, oh0_19, oh0_20, oh0_21, oh0_22, oh0_23, oh0_24, oh0_25, oh0_26, oh0_27, oh0_28, oh0_29, oh0_30, oh0_31, oh0_32, oh0_33, oh0_34, oh0_35, oh0_36, oh0_37]))] [(h0, .inr (9, [.int nv_seed, oh0_1, oh0_2, oh0_3, oh0_4, oh0_5, oh0_6, oh0_7, oh0_8, oh0_9, oh0_10, oh0_11, oh0_12, oh0_13, oh0_14, oh0_15, oh0_16, oh0_17, oh0_18, oh0_19, oh0_20, oh0_21, oh0_22, oh0_23, oh0_24, oh0_25, oh0_26, oh0_27, oh0_28, oh0_29, oh0_30, oh0_31, oh0_32, oh0_33, oh0_34, oh0_35, oh0_36, oh0_37]))] r := by
  unfold f9_draw at hM
  refine ct_oi (cc := cX9_draw) (maxL := 2) (ty := .int) (by decide +kernel) rfl (Nat.le_of_ble_eq_true rfl) (lv0 := [(0, .ref h0), (1, .int p1)]) rfl ?_
  intro p e s m args below meth c A Q ls hx hb hts hown hml hK hP hD hS hA hret hl
  have hown : s.vm.findClass RX9 = some m.cls := hown
  have k214 := hts (.fieldLink RX9 214 "CaveYearsModel" "seed" "I") (List.mem_of_getElem? (i := 1) rfl)
  have iX9 := (fun w h => (List.mem_cons_of_mem _ (List.mem_append_right _ h)) : ∀ w ∈ wsX90, w ∈ wsX9_draw)
  have k217 := hts (.constantLong RX9 217 (1103515245)) (List.mem_of_getElem? (i := 2) rfl)
  have k219 := hts (.constantLong RX9 219 (12345)) (List.mem_of_getElem? (i := 3) rfl)
  have k221 := hts (.constantLong RX9 221 (2147483648)) (List.mem_of_getElem? (i := 4) rfl)
  have k223 := hts (.constant RX9 223 (65536)) (List.mem_of_getElem? (i := 5) rfl)
  refine lv_aload_n hx hb dX9_draw_0 rfl (lv_at hl 0 rfl) ?_
  refine lv_aload_n hx hb dX9_draw_1 rfl (lv_at hl 0 rfl) ?_
  refine va_get (D := D) (ci := 9) (v := .int v_seed) (C := RX9) (T := TX9) (N := 38) hx hb hts iX9 hown hK hP 0 rfl rfl 0 (by decide) k214 (fun _ h9 => h9) rfl dX9_draw_2 ?_
  refine lv_i2l (v := v_seed.toInt64) hx hb dX9_draw_5 rfl ?_
  refine lv_ldc2 (v := 1103515245) hx hb hown k217 dX9_draw_6 ?_
  refine lv_lmul hx hb dX9_draw_9 ?_
  refine lv_ldc2 (v := 12345) hx hb hown k219 dX9_draw_10 ?_
  refine lv_ladd hx hb dX9_draw_13 ?_
  refine lv_ldc2 (v := 2147483648) hx hb hown k221 dX9_draw_14 ?_
  refine lv_lrem hx hb dX9_draw_17 (by decide) ?_
  refine lv_l2i (v := ((((v_seed.toInt64) * (1103515245 : Int64)) + (12345 : Int64)) - (((v_seed.toInt64) * (1103515245 : Int64)) + (12345 : Int64)) / (2147483648 : Int64) * (2147483648 : Int64)).toInt32) hx hb dX9_draw_18 rfl ?_
  refine va_put (D := D) (ci := 9) (v := .int (((((v_seed.toInt64) * (1103515245 : Int64)) + (12345 : Int64)) - (((v_seed.toInt64) * (1103515245 : Int64)) + (12345 : Int64)) / (2147483648 : Int64) * (2147483648 : Int64)).toInt32)) (ty := .int) (C := RX9) (T := TX9) (N := 38) hx hb hts iX9 tyX9 tyX9_ok nmX9 hown hK hP hD hS 0 rfl rfl 0 (by decide) k214 (fun _ h9 => h9) rfl (by decide +kernel) rfl rfl (Nat.le_of_ble_eq_true rfl) dX9_draw_19 (fun H locs hP hD hS => ?_)
  have hP : va_P D vwCl [(h0, .inr (9, [.int (((((v_seed.toInt64) * (1103515245 : Int64)) + (12345 : Int64)) - (((v_seed.toInt64) * (1103515245 : Int64)) + (12345 : Int64)) / (2147483648 : Int64) * (2147483648 : Int64)).toInt32), oh0_1, oh0_2, oh0_3, oh0_4, oh0_5, oh0_6, oh0_7, oh0_8, oh0_9, oh0_10, oh0_11, oh0_12, oh0_13, oh0_14, oh0_15, oh0_16, oh0_17, oh0_18, oh0_19, oh0_20, oh0_21, oh0_22, oh0_23, oh0_24, oh0_25, oh0_26, oh0_27, oh0_28, oh0_29, oh0_30, oh0_31, oh0_32, oh0_33, oh0_34, oh0_35, oh0_36, oh0_37]))] H := hP
  have hD : va_D A [(h0, .inr (9, [.int (((((v_seed.toInt64) * (1103515245 : Int64)) + (12345 : Int64)) - (((v_seed.toInt64) * (1103515245 : Int64)) + (12345 : Int64)) / (2147483648 : Int64) * (2147483648 : Int64)).toInt32), oh0_1, oh0_2, oh0_3, oh0_4, oh0_5, oh0_6, oh0_7, oh0_8, oh0_9, oh0_10, oh0_11, oh0_12, oh0_13, oh0_14, oh0_15, oh0_16, oh0_17, oh0_18, oh0_19, oh0_20, oh0_21, oh0_22, oh0_23, oh0_24, oh0_25, oh0_26, oh0_27, oh0_28, oh0_29, oh0_30, oh0_31, oh0_32, oh0_33, oh0_34, oh0_35, oh0_36, oh0_37]))] := hD
  refine lv_aload_n hx hb dX9_draw_22 rfl (lv_at hl 0 rfl) ?_
  refine va_get (D := D) (ci := 9) (v := .int (((((v_seed.toInt64) * (1103515245 : Int64)) + (12345 : Int64)) - (((v_seed.toInt64) * (1103515245 : Int64)) + (12345 : Int64)) / (2147483648 : Int64) * (2147483648 : Int64)).toInt32)) (C := RX9) (T := TX9) (N := 38) hx hb hts iX9 hown hK hP 0 rfl rfl 0 (by decide) k214 (fun _ h9 => h9) rfl dX9_draw_23 ?_
  refine lv_ldc (v := 65536) hx hb hown k223 dX9_draw_26 ?_
  refine lv_idiv hx hb dX9_draw_28 (by decide) ?_
  refine lv_iload_n hx hb dX9_draw_29 rfl (lv_at hl 1 rfl) ?_
  obtain ⟨hz30, hM⟩ := gz_some hM
  refine lv_irem hx hb dX9_draw_30 hz30 ?_
  obtain ⟨rfl, rfl⟩ := si2 hM
  exact hret _ _ _ _ _ dX9_draw_31 rfl rfl hP hD hS

-- ===== X9_drift drift (I)I =====
abbrev r9_drift : Room := { frames := 3, cells := 0, slots := 0, locals := 64 }
def f9_drift_L50 (N : Nat) (p1 : Int32) (v_parts : Nat → Int32) (v_rates : Nat → Int32) (v_mouths : Nat → Int32) (v_persons : Nat → Int32) (v_interest : Nat → Int32) : Nat → Int32 → Int32 → (Nat → Int32) → Option (Int32 × (Nat → Int32))
  | 0, _, _, _ => none
  | n + 1, x2_50, v_seed_50, v_now_50 => if p1 ≤ x2_50 then (some (v_seed_50, v_now_50)) else (gi (0 : Int32) 2 (ob2 (f9_draw N (v_persons (0 : Int32).toNatClampNeg) v_seed_50) fun r62 v_seed_62 => ob1 (f9_isDown N r62 v_now_50) fun r68 => if r68 = (0 : Int32) then (gi (0 : Int32) 2 (ob2 (f9_draw N (v_parts (0 : Int32).toNatClampNeg) v_seed_62) fun r81 v_seed_81 => ob2 (f9_draw N (9 : Int32) v_seed_81) fun r89 v_seed_89 => ob1 (f9_isMouth N r81 v_parts v_mouths) fun r99 => if r99 = (0 : Int32) then (ob2 (f9_draw N (60 : Int32) v_seed_89) fun r126 v_seed_126 => ob1 (f9_passBy N r126 v_persons v_interest v_now_50) fun v_now_129 => (f9_drift_L50 N p1 v_parts v_rates v_mouths v_persons v_interest n) (x2_50 + (1 : Int32)) v_seed_126 v_now_129) else (gi r81 14 (ob1 (f9_goIn N r62 (r89 + (1 : Int32)) ((r89 + (1 : Int32)) * (v_rates r81.toNatClampNeg)) v_now_50) fun v_now_119 => ob2 (f9_draw N (60 : Int32) v_seed_89) fun r126 v_seed_126 => ob1 (f9_passBy N r126 v_persons v_interest v_now_119) fun v_now_129 => (f9_drift_L50 N p1 v_parts v_rates v_mouths v_persons v_interest n) (x2_50 + (1 : Int32)) v_seed_126 v_now_129)))) else (ob2 (f9_draw N (60 : Int32) v_seed_62) fun r126 v_seed_126 => ob1 (f9_passBy N r126 v_persons v_interest v_now_50) fun v_now_129 => (f9_drift_L50 N p1 v_parts v_rates v_mouths v_persons v_interest n) (x2_50 + (1 : Int32)) v_seed_126 v_now_129)))
def f9_drift (N : Nat) (p1 : Int32) (v_seed : Int32) (v_parts : Nat → Int32) (v_rates : Nat → Int32) (v_mouths : Nat → Int32) (v_persons : Nat → Int32) (v_interest : Nat → Int32) (v_now : Nat → Int32) : Option (Int32 × Int32 × (Nat → Int32)) :=
  ob1 (f9_in N p1 (1 : Int32) (99 : Int32)) fun r4 => if r4 = (0 : Int32) then (some ((-1000000002 : Int32), v_seed, v_now)) else (gi (0 : Int32) 2 (if (v_parts (0 : Int32).toNatClampNeg) = (0 : Int32) then (some ((-1000000003 : Int32), v_seed, v_now)) else (gi (0 : Int32) 2 (if (v_persons (0 : Int32).toNatClampNeg) = (0 : Int32) then (some ((-1000000003 : Int32), v_seed, v_now)) else (gi (0 : Int32) 60 (if (v_now (0 : Int32).toNatClampNeg) ≤ (9990000 : Int32) then (ob2 (f9_drift_L50 N p1 v_parts v_rates v_mouths v_persons v_interest N (0 : Int32) v_seed v_now) fun v_seed_e50 v_now_e50 => gi (0 : Int32) 60 (some ((v_now_e50 (0 : Int32).toNatClampNeg), v_seed_e50, v_now_e50))) else (some ((-1000000004 : Int32), v_seed, v_now))))))))
set_option maxHeartbeats 4000000 in
set_option maxRecDepth 100000 in
theorem c9_drift (l : Launch) (D : va_G) (cy : Nat → ClassId) (N : Nat) (h0 h0_parts h0_rates h0_mouths h0_persons h0_interest h0_now : Nat) (oh0_1 oh0_2 oh0_5 oh0_6 oh0_9 oh0_10 oh0_12 oh0_13 oh0_14 oh0_15 oh0_16 oh0_17 oh0_18 oh0_19 oh0_20 oh0_21 oh0_23 oh0_24 oh0_25 oh0_26 oh0_27 oh0_28 oh0_29 oh0_30 oh0_31 oh0_32 oh0_33 oh0_34 oh0_35 oh0_36 oh0_37 : Value) (p1 : Int32) (v_seed : Int32) (v_parts : Nat → Int32) (v_rates : Nat → Int32) (v_mouths : Nat → Int32) (v_persons : Nat → Int32) (v_interest : Nat → Int32) (v_now : Nat → Int32) (r : Int32) (nv_seed : Int32) (nv_now : Nat → Int32) (hM : f9_drift N p1 v_seed v_parts v_rates v_mouths v_persons v_interest v_now = some (r, nv_seed, nv_now)) (sz : Nat) : CTi l yX9_drift wsX9_drift r9_drift [.ref h0, .int p1] D cy sz [(h0, .inr (9, [.int v_seed, oh0_1, oh0_2, .ref h0_parts, .ref h0_rates, oh0_5, oh0_6, .ref h0_mouths, .ref h0_persons, oh0_9, oh0_10, .ref h0_interest, oh0_12, oh0_13, oh0_14, oh0_15, oh0_16, oh0_17, oh0_18, oh0_19, oh0_20, oh0_21, .ref h0_now, oh0_23, oh0_24, oh0_25, oh0_26, oh0_27, oh0_28, oh0_29, oh0_30, oh0_31, oh0_32, oh0_33, oh0_34, oh0_35, oh0_36, oh0_37])), (h0_parts, .inl (cy 2, 2, .inl v_parts)), (h0_rates, .inl (cy 2, 14, .inl v_rates)), (h0_mouths, .inl (cy 2, 2, .inl v_mouths)), (h0_persons, .inl (cy 2, 2, .inl v_persons)), (h0_interest, .inl (cy 2, 2, .inl v_interest)), (h0_now, .inl (cy 2, 60, .inl v_now))] [(h0, .inr (9, [.int nv_seed, oh0_1, oh0_2, .ref h0_parts, .ref h0_rates, oh0_5, oh0_6, .ref h0_mouths, .ref h0_persons, oh0_9, oh0_10, .ref h0_interest, oh0_12, oh0_13, oh0_14, oh0_15, oh0_16, oh0_17, oh0_18, oh0_19, oh0_20, oh0_21, .ref h0_now, oh0_23, oh0_24, oh0_25, oh0_26, oh0_27, oh0_28, oh0_29, oh0_30, oh0_31, oh0_32, oh0_33, oh0_34, oh0_35, oh0_36, oh0_37])), (h0_parts, .inl (cy 2, 2, .inl v_parts)), (h0_rates, .inl (cy 2, 14, .inl v_rates)), (h0_mouths, .inl (cy 2, 2, .inl v_mouths)), (h0_persons, .inl (cy 2, 2, .inl v_persons)), (h0_interest, .inl (cy 2, 2, .inl v_interest)), (h0_now, .inl (cy 2, 60, .inl nv_now))] r := by
  unfold f9_drift at hM
  refine ct_oi (cc := cX9_drift) (maxL := 6) (ty := .int) (by decide +kernel) rfl (Nat.le_of_ble_eq_true rfl) (lv0 := [(0, .ref h0), (1, .int p1)]) rfl ?_
  intro p e s m args below meth c A Q ls hx hb hts hown hml hK hP hD hS hA hret hl
  have hown : s.vm.findClass RX9 = some m.cls := hown
  have k13 := hts (.fieldLink RX9 13 "CaveYearsModel" "parts" "[I") (List.mem_of_getElem? (i := 2) rfl)
  have iX9 := (fun w h => (List.mem_cons_of_mem _ (List.mem_append_right _ h)) : ∀ w ∈ wsX90, w ∈ wsX9_drift)
  have k197 := hts (.constant RX9 197 (-1000000003)) (List.mem_of_getElem? (i := 4) rfl)
  have k29 := hts (.fieldLink RX9 29 "CaveYearsModel" "persons" "[I") (List.mem_of_getElem? (i := 3) rfl)
  have k50 := hts (.fieldLink RX9 50 "CaveYearsModel" "now" "[I") (List.mem_of_getElem? (i := 5) rfl)
  have k224 := hts (.constant RX9 224 (9990000)) (List.mem_of_getElem? (i := 6) rfl)
  have k17 := hts (.fieldLink RX9 17 "CaveYearsModel" "rates" "[I") (List.mem_of_getElem? (i := 8) rfl)
  have k103 := hts (.constant RX9 103 (-1000000004)) (List.mem_of_getElem? (i := 7) rfl)
  have k99 := hts (.constant RX9 99 (-1000000002)) (List.mem_of_getElem? (i := 1) rfl)
  refine lv_iload_n hx hb dX9_drift_0 rfl (lv_at hl 1 rfl) ?_
  refine lv_iconst (v := 1) hx hb dX9_drift_1 (by decide) ?_
  refine lv_bipush (v := 99) hx hb dX9_drift_2 (by decide) ?_
  obtain ⟨r4, hc4, hM⟩ := ob1_some hM
  refine cl_si (As := [.int p1, .int (1 : Int32), .int (99 : Int32)]) (rest := []) (wr := [(h0, .inr (9, [.int v_seed, oh0_1, oh0_2, .ref h0_parts, .ref h0_rates, oh0_5, oh0_6, .ref h0_mouths, .ref h0_persons, oh0_9, oh0_10, .ref h0_interest, oh0_12, oh0_13, oh0_14, oh0_15, oh0_16, oh0_17, oh0_18, oh0_19, oh0_20, oh0_21, .ref h0_now, oh0_23, oh0_24, oh0_25, oh0_26, oh0_27, oh0_28, oh0_29, oh0_30, oh0_31, oh0_32, oh0_33, oh0_34, oh0_35, oh0_36, oh0_37])), (h0_parts, .inl (cy 2, 2, .inl v_parts)), (h0_rates, .inl (cy 2, 14, .inl v_rates)), (h0_mouths, .inl (cy 2, 2, .inl v_mouths)), (h0_persons, .inl (cy 2, 2, .inl v_persons)), (h0_interest, .inl (cy 2, 2, .inl v_interest)), (h0_now, .inl (cy 2, 60, .inl v_now))]) (ws2 := [(h0, .inr (9, [.int v_seed, oh0_1, oh0_2, .ref h0_parts, .ref h0_rates, oh0_5, oh0_6, .ref h0_mouths, .ref h0_persons, oh0_9, oh0_10, .ref h0_interest, oh0_12, oh0_13, oh0_14, oh0_15, oh0_16, oh0_17, oh0_18, oh0_19, oh0_20, oh0_21, .ref h0_now, oh0_23, oh0_24, oh0_25, oh0_26, oh0_27, oh0_28, oh0_29, oh0_30, oh0_31, oh0_32, oh0_33, oh0_34, oh0_35, oh0_36, oh0_37])), (h0_parts, .inl (cy 2, 2, .inl v_parts)), (h0_rates, .inl (cy 2, 14, .inl v_rates)), (h0_mouths, .inl (cy 2, 2, .inl v_mouths)), (h0_persons, .inl (cy 2, 2, .inl v_persons)), (h0_interest, .inl (cy 2, 2, .inl v_interest)), (h0_now, .inl (cy 2, 60, .inl v_now))]) (isC := []) (isR := [0, 1, 2, 3, 4, 5, 6]) (pm := [0, 1, 2, 3, 4, 5, 6]) hx hb hml hown hts (c9_in l D cy N p1 (1 : Int32) (99 : Int32) r4 hc4) (va_cwS 3 hts gX9_drift_X9_in rfl rfl rfl (by decide +kernel) ⟨Nat.le_of_ble_eq_true rfl, Nat.le_of_ble_eq_true rfl⟩) hK hP hD hS hA rfl rfl rfl (by decide) rfl rfl rfl hl.1 (Nat.le_of_ble_eq_true rfl) dX9_drift_4 ⟨Nat.zero_le _, Nat.zero_le _⟩ rfl rfl (fun H locs hP hD hS => ?_)
  refine lv_if_ne (tgt := 13) hx hb dX9_drift_7 (by decide) (fun c7 => ?_) (fun c7 => ?_)
  · have hM := g_neg c7 hM
    refine lv_aload_n hx hb dX9_drift_13 rfl (lv_at hl 0 rfl) ?_
    refine va_get (D := D) (ci := 9) (v := .ref h0_parts) (C := RX9) (T := TX9) (N := 38) hx hb hts iX9 hown hK hP 0 rfl rfl 3 (by decide) k13 (fun _ h9 => h9) rfl dX9_drift_14 ?_
    refine lv_iconst (v := 0) hx hb dX9_drift_17 (by decide) ?_
    obtain ⟨h18, hM⟩ := gi_some hM
    refine va_iald hx hb hK hP 1 2 rfl rfl h18 dX9_drift_18 ?_
    refine lv_if_eq (tgt := 31) hx hb dX9_drift_19 (by decide) (fun c19 => ?_) (fun c19 => ?_)
    · have hM := g_pos c19 hM
      refine lv_ldc (v := -1000000003) hx hb hown k197 dX9_drift_31 ?_
      obtain ⟨rfl, rfl, rfl⟩ := si3 hM
      exact hret _ _ _ _ _ dX9_drift_33 rfl rfl hP hD hS
    · have hM := g_neg c19 hM
      refine lv_aload_n hx hb dX9_drift_22 rfl (lv_at hl 0 rfl) ?_
      refine va_get (D := D) (ci := 9) (v := .ref h0_persons) (C := RX9) (T := TX9) (N := 38) hx hb hts iX9 hown hK hP 0 rfl rfl 8 (by decide) k29 (fun _ h9 => h9) rfl dX9_drift_23 ?_
      refine lv_iconst (v := 0) hx hb dX9_drift_26 (by decide) ?_
      obtain ⟨h27, hM⟩ := gi_some hM
      refine va_iald hx hb hK hP 4 2 rfl rfl h27 dX9_drift_27 ?_
      refine lv_if_ne (tgt := 34) hx hb dX9_drift_28 (by decide) (fun c28 => ?_) (fun c28 => ?_)
      · have hM := g_neg c28 hM
        refine lv_aload_n hx hb dX9_drift_34 rfl (lv_at hl 0 rfl) ?_
        refine va_get (D := D) (ci := 9) (v := .ref h0_now) (C := RX9) (T := TX9) (N := 38) hx hb hts iX9 hown hK hP 0 rfl rfl 22 (by decide) k50 (fun _ h9 => h9) rfl dX9_drift_35 ?_
        refine lv_iconst (v := 0) hx hb dX9_drift_38 (by decide) ?_
        obtain ⟨h39, hM⟩ := gi_some hM
        refine va_iald hx hb hK hP 6 2 rfl rfl h39 dX9_drift_39 ?_
        refine lv_ldc (v := 9990000) hx hb hown k224 dX9_drift_40 ?_
        refine lv_icmp_le (tgt := 48) hx hb dX9_drift_42 (by decide) (fun c42 => ?_) (fun c42 => ?_)
        · have hM := g_pos c42 hM
          refine lv_iconst (v := 0) hx hb dX9_drift_48 (by decide) ?_
          refine lv_istore_n (lv' := [(2, .int (0 : Int32)), (0, .ref h0), (1, .int p1)]) hx hb dX9_drift_49 rfl hl (by decide) rfl (fun ls hl => ?_)
          have L50 : ∀ (n : Nat) (x2_50 : Int32) (v_seed_50 : Int32) (v_now_50 : Nat → Int32) (v_seed_e50 : Int32) (v_now_e50 : Nat → Int32) (H : Heap) (locs : List Loc) (ls : Array Slot), f9_drift_L50 N p1 v_parts v_rates v_mouths v_persons v_interest n x2_50 v_seed_50 v_now_50 = some (v_seed_e50, v_now_e50) → va_P D vwCl [(h0, .inr (9, [.int v_seed_50, oh0_1, oh0_2, .ref h0_parts, .ref h0_rates, oh0_5, oh0_6, .ref h0_mouths, .ref h0_persons, oh0_9, oh0_10, .ref h0_interest, oh0_12, oh0_13, oh0_14, oh0_15, oh0_16, oh0_17, oh0_18, oh0_19, oh0_20, oh0_21, .ref h0_now, oh0_23, oh0_24, oh0_25, oh0_26, oh0_27, oh0_28, oh0_29, oh0_30, oh0_31, oh0_32, oh0_33, oh0_34, oh0_35, oh0_36, oh0_37])), (h0_parts, .inl (cy 2, 2, .inl v_parts)), (h0_rates, .inl (cy 2, 14, .inl v_rates)), (h0_mouths, .inl (cy 2, 2, .inl v_mouths)), (h0_persons, .inl (cy 2, 2, .inl v_persons)), (h0_interest, .inl (cy 2, 2, .inl v_interest)), (h0_now, .inl (cy 2, 60, .inl v_now_50))] H → va_D A [(h0, .inr (9, [.int v_seed_50, oh0_1, oh0_2, .ref h0_parts, .ref h0_rates, oh0_5, oh0_6, .ref h0_mouths, .ref h0_persons, oh0_9, oh0_10, .ref h0_interest, oh0_12, oh0_13, oh0_14, oh0_15, oh0_16, oh0_17, oh0_18, oh0_19, oh0_20, oh0_21, .ref h0_now, oh0_23, oh0_24, oh0_25, oh0_26, oh0_27, oh0_28, oh0_29, oh0_30, oh0_31, oh0_32, oh0_33, oh0_34, oh0_35, oh0_36, oh0_37])), (h0_parts, .inl (cy 2, 2, .inl v_parts)), (h0_rates, .inl (cy 2, 14, .inl v_rates)), (h0_mouths, .inl (cy 2, 2, .inl v_mouths)), (h0_persons, .inl (cy 2, 2, .inl v_persons)), (h0_interest, .inl (cy 2, 2, .inl v_interest)), (h0_now, .inl (cy 2, 60, .inl v_now_50))] → va_S A s.heap H locs → lv_has ls 6 [(0, .ref h0), (1, .int p1), (2, .int x2_50)] → (∀ (H : Heap) (locs : List Loc) (ls : Array Slot), va_P D vwCl [(h0, .inr (9, [.int v_seed_e50, oh0_1, oh0_2, .ref h0_parts, .ref h0_rates, oh0_5, oh0_6, .ref h0_mouths, .ref h0_persons, oh0_9, oh0_10, .ref h0_interest, oh0_12, oh0_13, oh0_14, oh0_15, oh0_16, oh0_17, oh0_18, oh0_19, oh0_20, oh0_21, .ref h0_now, oh0_23, oh0_24, oh0_25, oh0_26, oh0_27, oh0_28, oh0_29, oh0_30, oh0_31, oh0_32, oh0_33, oh0_34, oh0_35, oh0_36, oh0_37])), (h0_parts, .inl (cy 2, 2, .inl v_parts)), (h0_rates, .inl (cy 2, 14, .inl v_rates)), (h0_mouths, .inl (cy 2, 2, .inl v_mouths)), (h0_persons, .inl (cy 2, 2, .inl v_persons)), (h0_interest, .inl (cy 2, 2, .inl v_interest)), (h0_now, .inl (cy 2, 60, .inl v_now_e50))] H → va_D A [(h0, .inr (9, [.int v_seed_e50, oh0_1, oh0_2, .ref h0_parts, .ref h0_rates, oh0_5, oh0_6, .ref h0_mouths, .ref h0_persons, oh0_9, oh0_10, .ref h0_interest, oh0_12, oh0_13, oh0_14, oh0_15, oh0_16, oh0_17, oh0_18, oh0_19, oh0_20, oh0_21, .ref h0_now, oh0_23, oh0_24, oh0_25, oh0_26, oh0_27, oh0_28, oh0_29, oh0_30, oh0_31, oh0_32, oh0_33, oh0_34, oh0_35, oh0_36, oh0_37])), (h0_parts, .inl (cy 2, 2, .inl v_parts)), (h0_rates, .inl (cy 2, 14, .inl v_rates)), (h0_mouths, .inl (cy 2, 2, .inl v_mouths)), (h0_persons, .inl (cy 2, 2, .inl v_persons)), (h0_interest, .inl (cy 2, 2, .inl v_interest)), (h0_now, .inl (cy 2, 60, .inl v_now_e50))] → va_S A s.heap H locs → lv_has ls 6 [(0, .ref h0)] → W p l e r9_drift s m args below meth c H locs 0 0 Q (F0 m 138 ls [])) → W p l e r9_drift s m args below meth c H locs 0 0 Q (F0 m 50 ls []) := by
            intro n
            induction n with
            | zero =>
              intro x2_50 v_seed_50 v_now_50 v_seed_e50 v_now_e50 H locs ls hM
              exact absurd hM (by simp [f9_drift_L50])
            | succ n ih =>
              intro x2_50 v_seed_50 v_now_50 v_seed_e50 v_now_e50 H locs ls hM hP hD hS hl K
              rw [f9_drift_L50] at hM
              refine lv_iload_n hx hb dX9_drift_50 rfl (lv_at hl 2 rfl) ?_
              refine lv_iload_n hx hb dX9_drift_51 rfl (lv_at hl 1 rfl) ?_
              refine lv_icmp_ge (tgt := 138) hx hb dX9_drift_52 (by decide) (fun c52 => ?_) (fun c52 => ?_)
              · have hM := g_pos c52 hM
                obtain ⟨rfl, rfl⟩ := si2 hM
                exact K _ _ _ hP hD hS (lv_sub hl [0] rfl)
              · have hM := g_neg c52 hM
                refine lv_aload_n hx hb dX9_drift_55 rfl (lv_at hl 0 rfl) ?_
                refine lv_aload_n hx hb dX9_drift_56 rfl (lv_at hl 0 rfl) ?_
                refine va_get (D := D) (ci := 9) (v := .ref h0_persons) (C := RX9) (T := TX9) (N := 38) hx hb hts iX9 hown hK hP 0 rfl rfl 8 (by decide) k29 (fun _ h9 => h9) rfl dX9_drift_57 ?_
                refine lv_iconst (v := 0) hx hb dX9_drift_60 (by decide) ?_
                obtain ⟨h61, hM⟩ := gi_some hM
                refine va_iald hx hb hK hP 4 2 rfl rfl h61 dX9_drift_61 ?_
                obtain ⟨r62, v_seed_62, hc62, hM⟩ := ob2_some hM
                refine cl_vi (As := [.int (v_persons (0 : Int32).toNatClampNeg)]) (rest := []) (ci := 9) (q0 := 0) (wr := [(h0_parts, .inl (cy 2, 2, .inl v_parts)), (h0_rates, .inl (cy 2, 14, .inl v_rates)), (h0_mouths, .inl (cy 2, 2, .inl v_mouths)), (h0_persons, .inl (cy 2, 2, .inl v_persons)), (h0_interest, .inl (cy 2, 2, .inl v_interest)), (h0_now, .inl (cy 2, 60, .inl v_now_50))]) (ws2 := [(h0, .inr (9, [.int v_seed_62, oh0_1, oh0_2, .ref h0_parts, .ref h0_rates, oh0_5, oh0_6, .ref h0_mouths, .ref h0_persons, oh0_9, oh0_10, .ref h0_interest, oh0_12, oh0_13, oh0_14, oh0_15, oh0_16, oh0_17, oh0_18, oh0_19, oh0_20, oh0_21, .ref h0_now, oh0_23, oh0_24, oh0_25, oh0_26, oh0_27, oh0_28, oh0_29, oh0_30, oh0_31, oh0_32, oh0_33, oh0_34, oh0_35, oh0_36, oh0_37])), (h0_parts, .inl (cy 2, 2, .inl v_parts)), (h0_rates, .inl (cy 2, 14, .inl v_rates)), (h0_mouths, .inl (cy 2, 2, .inl v_mouths)), (h0_persons, .inl (cy 2, 2, .inl v_persons)), (h0_interest, .inl (cy 2, 2, .inl v_interest)), (h0_now, .inl (cy 2, 60, .inl v_now_50))]) (isC := [0]) (isR := [1, 2, 3, 4, 5, 6]) (pm := [6, 0, 1, 2, 3, 4, 5]) hx hb hml hown hts (c9_draw l D cy N h0 oh0_1 oh0_2 (.ref h0_parts) (.ref h0_rates) oh0_5 oh0_6 (.ref h0_mouths) (.ref h0_persons) oh0_9 oh0_10 (.ref h0_interest) oh0_12 oh0_13 oh0_14 oh0_15 oh0_16 oh0_17 oh0_18 oh0_19 oh0_20 oh0_21 (.ref h0_now) oh0_23 oh0_24 oh0_25 oh0_26 oh0_27 oh0_28 oh0_29 oh0_30 oh0_31 oh0_32 oh0_33 oh0_34 oh0_35 oh0_36 oh0_37 (v_persons (0 : Int32).toNatClampNeg) v_seed_50 r62 v_seed_62 hc62) (cwV 1 hts gX9_drift_X9_draw rfl rfl rfl (by decide +kernel) ⟨Nat.le_of_ble_eq_true rfl, Nat.le_of_ble_eq_true rfl⟩) hK hP hD hS hA rfl rfl rfl rfl rfl (by decide) rfl rfl rfl hl.1 (Nat.le_of_ble_eq_true rfl) dX9_drift_62 ⟨Nat.zero_le _, Nat.zero_le _⟩ rfl rfl (fun H locs hP hD hS => ?_)
                refine lv_istore_n (lv' := [(3, .int r62), (0, .ref h0), (1, .int p1), (2, .int x2_50)]) hx hb dX9_drift_65 rfl hl (by decide) rfl (fun ls hl => ?_)
                refine lv_aload_n hx hb dX9_drift_66 rfl (lv_at hl 1 rfl) ?_
                refine lv_iload_n hx hb dX9_drift_67 rfl (lv_at hl 0 rfl) ?_
                obtain ⟨r68, hc68, hM⟩ := ob1_some hM
                refine cl_vi (As := [.int r62]) (rest := []) (ci := 9) (q0 := 0) (wr := [(h0_parts, .inl (cy 2, 2, .inl v_parts)), (h0_rates, .inl (cy 2, 14, .inl v_rates)), (h0_mouths, .inl (cy 2, 2, .inl v_mouths)), (h0_persons, .inl (cy 2, 2, .inl v_persons)), (h0_interest, .inl (cy 2, 2, .inl v_interest))]) (ws2 := [(h0, .inr (9, [.int v_seed_62, oh0_1, oh0_2, .ref h0_parts, .ref h0_rates, oh0_5, oh0_6, .ref h0_mouths, .ref h0_persons, oh0_9, oh0_10, .ref h0_interest, oh0_12, oh0_13, oh0_14, oh0_15, oh0_16, oh0_17, oh0_18, oh0_19, oh0_20, oh0_21, .ref h0_now, oh0_23, oh0_24, oh0_25, oh0_26, oh0_27, oh0_28, oh0_29, oh0_30, oh0_31, oh0_32, oh0_33, oh0_34, oh0_35, oh0_36, oh0_37])), (h0_parts, .inl (cy 2, 2, .inl v_parts)), (h0_rates, .inl (cy 2, 14, .inl v_rates)), (h0_mouths, .inl (cy 2, 2, .inl v_mouths)), (h0_persons, .inl (cy 2, 2, .inl v_persons)), (h0_interest, .inl (cy 2, 2, .inl v_interest)), (h0_now, .inl (cy 2, 60, .inl v_now_50))]) (isC := [0, 6]) (isR := [1, 2, 3, 4, 5]) (pm := [5, 0, 1, 2, 3, 4, 6]) hx hb hml hown hts (c9_isDown l D cy N h0 h0_now (.int v_seed_62) oh0_1 oh0_2 (.ref h0_parts) (.ref h0_rates) oh0_5 oh0_6 (.ref h0_mouths) (.ref h0_persons) oh0_9 oh0_10 (.ref h0_interest) oh0_12 oh0_13 oh0_14 oh0_15 oh0_16 oh0_17 oh0_18 oh0_19 oh0_20 oh0_21 oh0_23 oh0_24 oh0_25 oh0_26 oh0_27 oh0_28 oh0_29 oh0_30 oh0_31 oh0_32 oh0_33 oh0_34 oh0_35 oh0_36 oh0_37 r62 v_now_50 r68 hc68) (cwV 1 hts gX9_drift_X9_isDown rfl rfl rfl (by decide +kernel) ⟨Nat.le_of_ble_eq_true rfl, Nat.le_of_ble_eq_true rfl⟩) hK hP hD hS hA rfl rfl rfl rfl rfl (by decide) rfl rfl rfl hl.1 (Nat.le_of_ble_eq_true rfl) dX9_drift_68 ⟨Nat.zero_le _, Nat.zero_le _⟩ rfl rfl (fun H locs hP hD hS => ?_)
                refine lv_if_ne (tgt := 122) hx hb dX9_drift_71 (by decide) (fun c71 => ?_) (fun c71 => ?_)
                · have hM := g_neg c71 hM
                  refine lv_aload_n hx hb dX9_drift_122 rfl (lv_at hl 1 rfl) ?_
                  refine lv_aload_n hx hb dX9_drift_123 rfl (lv_at hl 1 rfl) ?_
                  refine lv_bipush (v := 60) hx hb dX9_drift_124 (by decide) ?_
                  obtain ⟨r126, v_seed_126, hc126, hM⟩ := ob2_some hM
                  refine cl_vi (As := [.int (60 : Int32)]) (rest := [.ref h0]) (ci := 9) (q0 := 0) (wr := [(h0_parts, .inl (cy 2, 2, .inl v_parts)), (h0_rates, .inl (cy 2, 14, .inl v_rates)), (h0_mouths, .inl (cy 2, 2, .inl v_mouths)), (h0_persons, .inl (cy 2, 2, .inl v_persons)), (h0_interest, .inl (cy 2, 2, .inl v_interest)), (h0_now, .inl (cy 2, 60, .inl v_now_50))]) (ws2 := [(h0, .inr (9, [.int v_seed_126, oh0_1, oh0_2, .ref h0_parts, .ref h0_rates, oh0_5, oh0_6, .ref h0_mouths, .ref h0_persons, oh0_9, oh0_10, .ref h0_interest, oh0_12, oh0_13, oh0_14, oh0_15, oh0_16, oh0_17, oh0_18, oh0_19, oh0_20, oh0_21, .ref h0_now, oh0_23, oh0_24, oh0_25, oh0_26, oh0_27, oh0_28, oh0_29, oh0_30, oh0_31, oh0_32, oh0_33, oh0_34, oh0_35, oh0_36, oh0_37])), (h0_parts, .inl (cy 2, 2, .inl v_parts)), (h0_rates, .inl (cy 2, 14, .inl v_rates)), (h0_mouths, .inl (cy 2, 2, .inl v_mouths)), (h0_persons, .inl (cy 2, 2, .inl v_persons)), (h0_interest, .inl (cy 2, 2, .inl v_interest)), (h0_now, .inl (cy 2, 60, .inl v_now_50))]) (isC := [0]) (isR := [1, 2, 3, 4, 5, 6]) (pm := [6, 0, 1, 2, 3, 4, 5]) hx hb hml hown hts (c9_draw l D cy N h0 oh0_1 oh0_2 (.ref h0_parts) (.ref h0_rates) oh0_5 oh0_6 (.ref h0_mouths) (.ref h0_persons) oh0_9 oh0_10 (.ref h0_interest) oh0_12 oh0_13 oh0_14 oh0_15 oh0_16 oh0_17 oh0_18 oh0_19 oh0_20 oh0_21 (.ref h0_now) oh0_23 oh0_24 oh0_25 oh0_26 oh0_27 oh0_28 oh0_29 oh0_30 oh0_31 oh0_32 oh0_33 oh0_34 oh0_35 oh0_36 oh0_37 (60 : Int32) v_seed_62 r126 v_seed_126 hc126) (cwV 1 hts gX9_drift_X9_draw rfl rfl rfl (by decide +kernel) ⟨Nat.le_of_ble_eq_true rfl, Nat.le_of_ble_eq_true rfl⟩) hK hP hD hS hA rfl rfl rfl rfl rfl (by decide) rfl rfl rfl hl.1 (Nat.le_of_ble_eq_true rfl) dX9_drift_126 ⟨Nat.zero_le _, Nat.zero_le _⟩ rfl rfl (fun H locs hP hD hS => ?_)
                  obtain ⟨v_now_129, hc129, hM⟩ := ob1_some hM
                  refine cl_vv (As := [.int r126]) (rest := []) (ci := 9) (q0 := 0) (wr := [(h0_parts, .inl (cy 2, 2, .inl v_parts)), (h0_rates, .inl (cy 2, 14, .inl v_rates)), (h0_mouths, .inl (cy 2, 2, .inl v_mouths))]) (ws2 := [(h0, .inr (9, [.int v_seed_126, oh0_1, oh0_2, .ref h0_parts, .ref h0_rates, oh0_5, oh0_6, .ref h0_mouths, .ref h0_persons, oh0_9, oh0_10, .ref h0_interest, oh0_12, oh0_13, oh0_14, oh0_15, oh0_16, oh0_17, oh0_18, oh0_19, oh0_20, oh0_21, .ref h0_now, oh0_23, oh0_24, oh0_25, oh0_26, oh0_27, oh0_28, oh0_29, oh0_30, oh0_31, oh0_32, oh0_33, oh0_34, oh0_35, oh0_36, oh0_37])), (h0_parts, .inl (cy 2, 2, .inl v_parts)), (h0_rates, .inl (cy 2, 14, .inl v_rates)), (h0_mouths, .inl (cy 2, 2, .inl v_mouths)), (h0_persons, .inl (cy 2, 2, .inl v_persons)), (h0_interest, .inl (cy 2, 2, .inl v_interest)), (h0_now, .inl (cy 2, 60, .inl v_now_129))]) (isC := [0, 4, 5, 6]) (isR := [1, 2, 3]) (pm := [3, 0, 1, 2, 4, 5, 6]) hx hb hml hown hts (c9_passBy l D cy N h0 h0_persons h0_interest h0_now (.int v_seed_126) oh0_1 oh0_2 (.ref h0_parts) (.ref h0_rates) oh0_5 oh0_6 (.ref h0_mouths) oh0_9 oh0_10 oh0_12 oh0_13 oh0_14 oh0_15 oh0_16 oh0_17 oh0_18 oh0_19 oh0_20 oh0_21 oh0_23 oh0_24 oh0_25 oh0_26 oh0_27 oh0_28 oh0_29 oh0_30 oh0_31 oh0_32 oh0_33 oh0_34 oh0_35 oh0_36 oh0_37 r126 v_persons v_interest v_now_50 v_now_129 hc129) (cwV 1 hts gX9_drift_X9_passBy rfl rfl rfl (by decide +kernel) ⟨Nat.le_of_ble_eq_true rfl, Nat.le_of_ble_eq_true rfl⟩) hK hP hD hS hA rfl rfl rfl rfl rfl (by decide) rfl rfl rfl hl.1 (Nat.le_of_ble_eq_true rfl) dX9_drift_129 ⟨Nat.zero_le _, Nat.zero_le _⟩ rfl rfl (fun H locs hP hD hS => ?_)
                  refine lv_iinc (v := x2_50 + (1 : Int32)) (lv' := [(2, .int (x2_50 + (1 : Int32))), (3, .int r62), (0, .ref h0), (1, .int p1)]) hx hb dX9_drift_132 hl (k := 3) rfl rfl (by decide) rfl (fun ls hl => ?_)
                  refine lv_goto (tgt := 50) hx hb dX9_drift_135 (by decide) ?_
                  exact ih (x2_50 + (1 : Int32)) v_seed_126 v_now_129 v_seed_e50 v_now_e50 _ _ _ hM hP hD hS (lv_sub hl [2, 3, 0] rfl) K
                · have hM := g_pos c71 hM
                  refine lv_aload_n hx hb dX9_drift_74 rfl (lv_at hl 1 rfl) ?_
                  refine lv_aload_n hx hb dX9_drift_75 rfl (lv_at hl 1 rfl) ?_
                  refine va_get (D := D) (ci := 9) (v := .ref h0_parts) (C := RX9) (T := TX9) (N := 38) hx hb hts iX9 hown hK hP 0 rfl rfl 3 (by decide) k13 (fun _ h9 => h9) rfl dX9_drift_76 ?_
                  refine lv_iconst (v := 0) hx hb dX9_drift_79 (by decide) ?_
                  obtain ⟨h80, hM⟩ := gi_some hM
                  refine va_iald hx hb hK hP 1 2 rfl rfl h80 dX9_drift_80 ?_
                  obtain ⟨r81, v_seed_81, hc81, hM⟩ := ob2_some hM
                  refine cl_vi (As := [.int (v_parts (0 : Int32).toNatClampNeg)]) (rest := []) (ci := 9) (q0 := 0) (wr := [(h0_parts, .inl (cy 2, 2, .inl v_parts)), (h0_rates, .inl (cy 2, 14, .inl v_rates)), (h0_mouths, .inl (cy 2, 2, .inl v_mouths)), (h0_persons, .inl (cy 2, 2, .inl v_persons)), (h0_interest, .inl (cy 2, 2, .inl v_interest)), (h0_now, .inl (cy 2, 60, .inl v_now_50))]) (ws2 := [(h0, .inr (9, [.int v_seed_81, oh0_1, oh0_2, .ref h0_parts, .ref h0_rates, oh0_5, oh0_6, .ref h0_mouths, .ref h0_persons, oh0_9, oh0_10, .ref h0_interest, oh0_12, oh0_13, oh0_14, oh0_15, oh0_16, oh0_17, oh0_18, oh0_19, oh0_20, oh0_21, .ref h0_now, oh0_23, oh0_24, oh0_25, oh0_26, oh0_27, oh0_28, oh0_29, oh0_30, oh0_31, oh0_32, oh0_33, oh0_34, oh0_35, oh0_36, oh0_37])), (h0_parts, .inl (cy 2, 2, .inl v_parts)), (h0_rates, .inl (cy 2, 14, .inl v_rates)), (h0_mouths, .inl (cy 2, 2, .inl v_mouths)), (h0_persons, .inl (cy 2, 2, .inl v_persons)), (h0_interest, .inl (cy 2, 2, .inl v_interest)), (h0_now, .inl (cy 2, 60, .inl v_now_50))]) (isC := [0]) (isR := [1, 2, 3, 4, 5, 6]) (pm := [6, 0, 1, 2, 3, 4, 5]) hx hb hml hown hts (c9_draw l D cy N h0 oh0_1 oh0_2 (.ref h0_parts) (.ref h0_rates) oh0_5 oh0_6 (.ref h0_mouths) (.ref h0_persons) oh0_9 oh0_10 (.ref h0_interest) oh0_12 oh0_13 oh0_14 oh0_15 oh0_16 oh0_17 oh0_18 oh0_19 oh0_20 oh0_21 (.ref h0_now) oh0_23 oh0_24 oh0_25 oh0_26 oh0_27 oh0_28 oh0_29 oh0_30 oh0_31 oh0_32 oh0_33 oh0_34 oh0_35 oh0_36 oh0_37 (v_parts (0 : Int32).toNatClampNeg) v_seed_62 r81 v_seed_81 hc81) (cwV 1 hts gX9_drift_X9_draw rfl rfl rfl (by decide +kernel) ⟨Nat.le_of_ble_eq_true rfl, Nat.le_of_ble_eq_true rfl⟩) hK hP hD hS hA rfl rfl rfl rfl rfl (by decide) rfl rfl rfl hl.1 (Nat.le_of_ble_eq_true rfl) dX9_drift_81 ⟨Nat.zero_le _, Nat.zero_le _⟩ rfl rfl (fun H locs hP hD hS => ?_)
                  refine lv_istore (lv' := [(4, .int r81), (3, .int r62), (0, .ref h0), (1, .int p1), (2, .int x2_50)]) hx hb dX9_drift_84 hl (by decide) rfl (fun ls hl => ?_)
                  refine lv_aload_n hx hb dX9_drift_86 rfl (lv_at hl 2 rfl) ?_
                  refine lv_bipush (v := 9) hx hb dX9_drift_87 (by decide) ?_
                  obtain ⟨r89, v_seed_89, hc89, hM⟩ := ob2_some hM
                  refine cl_vi (As := [.int (9 : Int32)]) (rest := []) (ci := 9) (q0 := 0) (wr := [(h0_parts, .inl (cy 2, 2, .inl v_parts)), (h0_rates, .inl (cy 2, 14, .inl v_rates)), (h0_mouths, .inl (cy 2, 2, .inl v_mouths)), (h0_persons, .inl (cy 2, 2, .inl v_persons)), (h0_interest, .inl (cy 2, 2, .inl v_interest)), (h0_now, .inl (cy 2, 60, .inl v_now_50))]) (ws2 := [(h0, .inr (9, [.int v_seed_89, oh0_1, oh0_2, .ref h0_parts, .ref h0_rates, oh0_5, oh0_6, .ref h0_mouths, .ref h0_persons, oh0_9, oh0_10, .ref h0_interest, oh0_12, oh0_13, oh0_14, oh0_15, oh0_16, oh0_17, oh0_18, oh0_19, oh0_20, oh0_21, .ref h0_now, oh0_23, oh0_24, oh0_25, oh0_26, oh0_27, oh0_28, oh0_29, oh0_30, oh0_31, oh0_32, oh0_33, oh0_34, oh0_35, oh0_36, oh0_37])), (h0_parts, .inl (cy 2, 2, .inl v_parts)), (h0_rates, .inl (cy 2, 14, .inl v_rates)), (h0_mouths, .inl (cy 2, 2, .inl v_mouths)), (h0_persons, .inl (cy 2, 2, .inl v_persons)), (h0_interest, .inl (cy 2, 2, .inl v_interest)), (h0_now, .inl (cy 2, 60, .inl v_now_50))]) (isC := [0]) (isR := [1, 2, 3, 4, 5, 6]) (pm := [6, 0, 1, 2, 3, 4, 5]) hx hb hml hown hts (c9_draw l D cy N h0 oh0_1 oh0_2 (.ref h0_parts) (.ref h0_rates) oh0_5 oh0_6 (.ref h0_mouths) (.ref h0_persons) oh0_9 oh0_10 (.ref h0_interest) oh0_12 oh0_13 oh0_14 oh0_15 oh0_16 oh0_17 oh0_18 oh0_19 oh0_20 oh0_21 (.ref h0_now) oh0_23 oh0_24 oh0_25 oh0_26 oh0_27 oh0_28 oh0_29 oh0_30 oh0_31 oh0_32 oh0_33 oh0_34 oh0_35 oh0_36 oh0_37 (9 : Int32) v_seed_81 r89 v_seed_89 hc89) (cwV 1 hts gX9_drift_X9_draw rfl rfl rfl (by decide +kernel) ⟨Nat.le_of_ble_eq_true rfl, Nat.le_of_ble_eq_true rfl⟩) hK hP hD hS hA rfl rfl rfl rfl rfl (by decide) rfl rfl rfl hl.1 (Nat.le_of_ble_eq_true rfl) dX9_drift_89 ⟨Nat.zero_le _, Nat.zero_le _⟩ rfl rfl (fun H locs hP hD hS => ?_)
                  refine lv_iconst (v := 1) hx hb dX9_drift_92 (by decide) ?_
                  refine lv_iadd hx hb dX9_drift_93 ?_
                  refine lv_istore (lv' := [(5, .int (r89 + (1 : Int32))), (4, .int r81), (3, .int r62), (0, .ref h0), (1, .int p1), (2, .int x2_50)]) hx hb dX9_drift_94 hl (by decide) rfl (fun ls hl => ?_)
                  refine lv_aload_n hx hb dX9_drift_96 rfl (lv_at hl 3 rfl) ?_
                  refine lv_iload hx hb dX9_drift_97 (lv_at hl 1 rfl) ?_
                  obtain ⟨r99, hc99, hM⟩ := ob1_some hM
                  refine cl_vi (As := [.int r81]) (rest := []) (ci := 9) (q0 := 0) (wr := [(h0_rates, .inl (cy 2, 14, .inl v_rates)), (h0_persons, .inl (cy 2, 2, .inl v_persons)), (h0_interest, .inl (cy 2, 2, .inl v_interest)), (h0_now, .inl (cy 2, 60, .inl v_now_50))]) (ws2 := [(h0, .inr (9, [.int v_seed_89, oh0_1, oh0_2, .ref h0_parts, .ref h0_rates, oh0_5, oh0_6, .ref h0_mouths, .ref h0_persons, oh0_9, oh0_10, .ref h0_interest, oh0_12, oh0_13, oh0_14, oh0_15, oh0_16, oh0_17, oh0_18, oh0_19, oh0_20, oh0_21, .ref h0_now, oh0_23, oh0_24, oh0_25, oh0_26, oh0_27, oh0_28, oh0_29, oh0_30, oh0_31, oh0_32, oh0_33, oh0_34, oh0_35, oh0_36, oh0_37])), (h0_parts, .inl (cy 2, 2, .inl v_parts)), (h0_rates, .inl (cy 2, 14, .inl v_rates)), (h0_mouths, .inl (cy 2, 2, .inl v_mouths)), (h0_persons, .inl (cy 2, 2, .inl v_persons)), (h0_interest, .inl (cy 2, 2, .inl v_interest)), (h0_now, .inl (cy 2, 60, .inl v_now_50))]) (isC := [0, 1, 3]) (isR := [2, 4, 5, 6]) (pm := [4, 5, 0, 6, 1, 2, 3]) hx hb hml hown hts (c9_isMouth l D cy N h0 h0_parts h0_mouths (.int v_seed_89) oh0_1 oh0_2 (.ref h0_rates) oh0_5 oh0_6 (.ref h0_persons) oh0_9 oh0_10 (.ref h0_interest) oh0_12 oh0_13 oh0_14 oh0_15 oh0_16 oh0_17 oh0_18 oh0_19 oh0_20 oh0_21 (.ref h0_now) oh0_23 oh0_24 oh0_25 oh0_26 oh0_27 oh0_28 oh0_29 oh0_30 oh0_31 oh0_32 oh0_33 oh0_34 oh0_35 oh0_36 oh0_37 r81 v_parts v_mouths r99 hc99) (cwV 1 hts gX9_drift_X9_isMouth rfl rfl rfl (by decide +kernel) ⟨Nat.le_of_ble_eq_true rfl, Nat.le_of_ble_eq_true rfl⟩) hK hP hD hS hA rfl rfl rfl rfl rfl (by decide) rfl rfl rfl hl.1 (Nat.le_of_ble_eq_true rfl) dX9_drift_99 ⟨Nat.zero_le _, Nat.zero_le _⟩ rfl rfl (fun H locs hP hD hS => ?_)
                  refine lv_if_eq (tgt := 122) hx hb dX9_drift_102 (by decide) (fun c102 => ?_) (fun c102 => ?_)
                  · have hM := g_pos c102 hM
                    refine lv_aload_n hx hb dX9_drift_122 rfl (lv_at hl 3 rfl) ?_
                    refine lv_aload_n hx hb dX9_drift_123 rfl (lv_at hl 3 rfl) ?_
                    refine lv_bipush (v := 60) hx hb dX9_drift_124 (by decide) ?_
                    obtain ⟨r126, v_seed_126, hc126, hM⟩ := ob2_some hM
                    refine cl_vi (As := [.int (60 : Int32)]) (rest := [.ref h0]) (ci := 9) (q0 := 0) (wr := [(h0_parts, .inl (cy 2, 2, .inl v_parts)), (h0_rates, .inl (cy 2, 14, .inl v_rates)), (h0_mouths, .inl (cy 2, 2, .inl v_mouths)), (h0_persons, .inl (cy 2, 2, .inl v_persons)), (h0_interest, .inl (cy 2, 2, .inl v_interest)), (h0_now, .inl (cy 2, 60, .inl v_now_50))]) (ws2 := [(h0, .inr (9, [.int v_seed_126, oh0_1, oh0_2, .ref h0_parts, .ref h0_rates, oh0_5, oh0_6, .ref h0_mouths, .ref h0_persons, oh0_9, oh0_10, .ref h0_interest, oh0_12, oh0_13, oh0_14, oh0_15, oh0_16, oh0_17, oh0_18, oh0_19, oh0_20, oh0_21, .ref h0_now, oh0_23, oh0_24, oh0_25, oh0_26, oh0_27, oh0_28, oh0_29, oh0_30, oh0_31, oh0_32, oh0_33, oh0_34, oh0_35, oh0_36, oh0_37])), (h0_parts, .inl (cy 2, 2, .inl v_parts)), (h0_rates, .inl (cy 2, 14, .inl v_rates)), (h0_mouths, .inl (cy 2, 2, .inl v_mouths)), (h0_persons, .inl (cy 2, 2, .inl v_persons)), (h0_interest, .inl (cy 2, 2, .inl v_interest)), (h0_now, .inl (cy 2, 60, .inl v_now_50))]) (isC := [0]) (isR := [1, 2, 3, 4, 5, 6]) (pm := [6, 0, 1, 2, 3, 4, 5]) hx hb hml hown hts (c9_draw l D cy N h0 oh0_1 oh0_2 (.ref h0_parts) (.ref h0_rates) oh0_5 oh0_6 (.ref h0_mouths) (.ref h0_persons) oh0_9 oh0_10 (.ref h0_interest) oh0_12 oh0_13 oh0_14 oh0_15 oh0_16 oh0_17 oh0_18 oh0_19 oh0_20 oh0_21 (.ref h0_now) oh0_23 oh0_24 oh0_25 oh0_26 oh0_27 oh0_28 oh0_29 oh0_30 oh0_31 oh0_32 oh0_33 oh0_34 oh0_35 oh0_36 oh0_37 (60 : Int32) v_seed_89 r126 v_seed_126 hc126) (cwV 1 hts gX9_drift_X9_draw rfl rfl rfl (by decide +kernel) ⟨Nat.le_of_ble_eq_true rfl, Nat.le_of_ble_eq_true rfl⟩) hK hP hD hS hA rfl rfl rfl rfl rfl (by decide) rfl rfl rfl hl.1 (Nat.le_of_ble_eq_true rfl) dX9_drift_126 ⟨Nat.zero_le _, Nat.zero_le _⟩ rfl rfl (fun H locs hP hD hS => ?_)
                    obtain ⟨v_now_129, hc129, hM⟩ := ob1_some hM
                    refine cl_vv (As := [.int r126]) (rest := []) (ci := 9) (q0 := 0) (wr := [(h0_parts, .inl (cy 2, 2, .inl v_parts)), (h0_rates, .inl (cy 2, 14, .inl v_rates)), (h0_mouths, .inl (cy 2, 2, .inl v_mouths))]) (ws2 := [(h0, .inr (9, [.int v_seed_126, oh0_1, oh0_2, .ref h0_parts, .ref h0_rates, oh0_5, oh0_6, .ref h0_mouths, .ref h0_persons, oh0_9, oh0_10, .ref h0_interest, oh0_12, oh0_13, oh0_14, oh0_15, oh0_16, oh0_17, oh0_18, oh0_19, oh0_20, oh0_21, .ref h0_now, oh0_23, oh0_24, oh0_25, oh0_26, oh0_27, oh0_28, oh0_29, oh0_30, oh0_31, oh0_32, oh0_33, oh0_34, oh0_35, oh0_36, oh0_37])), (h0_parts, .inl (cy 2, 2, .inl v_parts)), (h0_rates, .inl (cy 2, 14, .inl v_rates)), (h0_mouths, .inl (cy 2, 2, .inl v_mouths)), (h0_persons, .inl (cy 2, 2, .inl v_persons)), (h0_interest, .inl (cy 2, 2, .inl v_interest)), (h0_now, .inl (cy 2, 60, .inl v_now_129))]) (isC := [0, 4, 5, 6]) (isR := [1, 2, 3]) (pm := [3, 0, 1, 2, 4, 5, 6]) hx hb hml hown hts (c9_passBy l D cy N h0 h0_persons h0_interest h0_now (.int v_seed_126) oh0_1 oh0_2 (.ref h0_parts) (.ref h0_rates) oh0_5 oh0_6 (.ref h0_mouths) oh0_9 oh0_10 oh0_12 oh0_13 oh0_14 oh0_15 oh0_16 oh0_17 oh0_18 oh0_19 oh0_20 oh0_21 oh0_23 oh0_24 oh0_25 oh0_26 oh0_27 oh0_28 oh0_29 oh0_30 oh0_31 oh0_32 oh0_33 oh0_34 oh0_35 oh0_36 oh0_37 r126 v_persons v_interest v_now_50 v_now_129 hc129) (cwV 1 hts gX9_drift_X9_passBy rfl rfl rfl (by decide +kernel) ⟨Nat.le_of_ble_eq_true rfl, Nat.le_of_ble_eq_true rfl⟩) hK hP hD hS hA rfl rfl rfl rfl rfl (by decide) rfl rfl rfl hl.1 (Nat.le_of_ble_eq_true rfl) dX9_drift_129 ⟨Nat.zero_le _, Nat.zero_le _⟩ rfl rfl (fun H locs hP hD hS => ?_)
                    refine lv_iinc (v := x2_50 + (1 : Int32)) (lv' := [(2, .int (x2_50 + (1 : Int32))), (5, .int (r89 + (1 : Int32))), (4, .int r81), (3, .int r62), (0, .ref h0), (1, .int p1)]) hx hb dX9_drift_132 hl (k := 5) rfl rfl (by decide) rfl (fun ls hl => ?_)
                    refine lv_goto (tgt := 50) hx hb dX9_drift_135 (by decide) ?_
                    exact ih (x2_50 + (1 : Int32)) v_seed_126 v_now_129 v_seed_e50 v_now_e50 _ _ _ hM hP hD hS (lv_sub hl [4, 5, 0] rfl) K
                  · have hM := g_neg c102 hM
                    refine lv_aload_n hx hb dX9_drift_105 rfl (lv_at hl 3 rfl) ?_
                    refine lv_iload_n hx hb dX9_drift_106 rfl (lv_at hl 2 rfl) ?_
                    refine lv_iload hx hb dX9_drift_107 (lv_at hl 0 rfl) ?_
                    refine lv_iload hx hb dX9_drift_109 (lv_at hl 0 rfl) ?_
                    refine lv_aload_n hx hb dX9_drift_111 rfl (lv_at hl 3 rfl) ?_
                    refine va_get (D := D) (ci := 9) (v := .ref h0_rates) (C := RX9) (T := TX9) (N := 38) hx hb hts iX9 hown hK hP 0 rfl rfl 4 (by decide) k17 (fun _ h9 => h9) rfl dX9_drift_112 ?_
                    refine lv_iload hx hb dX9_drift_115 (lv_at hl 1 rfl) ?_
                    obtain ⟨h117, hM⟩ := gi_some hM
                    refine va_iald hx hb hK hP 2 2 rfl rfl h117 dX9_drift_117 ?_
                    refine lv_imul hx hb dX9_drift_118 ?_
                    obtain ⟨v_now_119, hc119, hM⟩ := ob1_some hM
                    refine cl_vv (As := [.int r62, .int (r89 + (1 : Int32)), .int ((r89 + (1 : Int32)) * (v_rates r81.toNatClampNeg))]) (rest := []) (ci := 9) (q0 := 0) (wr := [(h0_parts, .inl (cy 2, 2, .inl v_parts)), (h0_rates, .inl (cy 2, 14, .inl v_rates)), (h0_mouths, .inl (cy 2, 2, .inl v_mouths)), (h0_persons, .inl (cy 2, 2, .inl v_persons)), (h0_interest, .inl (cy 2, 2, .inl v_interest))]) (ws2 := [(h0, .inr (9, [.int v_seed_89, oh0_1, oh0_2, .ref h0_parts, .ref h0_rates, oh0_5, oh0_6, .ref h0_mouths, .ref h0_persons, oh0_9, oh0_10, .ref h0_interest, oh0_12, oh0_13, oh0_14, oh0_15, oh0_16, oh0_17, oh0_18, oh0_19, oh0_20, oh0_21, .ref h0_now, oh0_23, oh0_24, oh0_25, oh0_26, oh0_27, oh0_28, oh0_29, oh0_30, oh0_31, oh0_32, oh0_33, oh0_34, oh0_35, oh0_36, oh0_37])), (h0_parts, .inl (cy 2, 2, .inl v_parts)), (h0_rates, .inl (cy 2, 14, .inl v_rates)), (h0_mouths, .inl (cy 2, 2, .inl v_mouths)), (h0_persons, .inl (cy 2, 2, .inl v_persons)), (h0_interest, .inl (cy 2, 2, .inl v_interest)), (h0_now, .inl (cy 2, 60, .inl v_now_119))]) (isC := [0, 6]) (isR := [1, 2, 3, 4, 5]) (pm := [5, 0, 1, 2, 3, 4, 6]) hx hb hml hown hts (c9_goIn l D cy N h0 h0_now (.int v_seed_89) oh0_1 oh0_2 (.ref h0_parts) (.ref h0_rates) oh0_5 oh0_6 (.ref h0_mouths) (.ref h0_persons) oh0_9 oh0_10 (.ref h0_interest) oh0_12 oh0_13 oh0_14 oh0_15 oh0_16 oh0_17 oh0_18 oh0_19 oh0_20 oh0_21 oh0_23 oh0_24 oh0_25 oh0_26 oh0_27 oh0_28 oh0_29 oh0_30 oh0_31 oh0_32 oh0_33 oh0_34 oh0_35 oh0_36 oh0_37 r62 (r89 + (1 : Int32)) ((r89 + (1 : Int32)) * (v_rates r81.toNatClampNeg)) v_now_50 v_now_119 hc119) (cwV 3 hts gX9_drift_X9_goIn rfl rfl rfl (by decide +kernel) ⟨Nat.le_of_ble_eq_true rfl, Nat.le_of_ble_eq_true rfl⟩) hK hP hD hS hA rfl rfl rfl rfl rfl (by decide) rfl rfl rfl hl.1 (Nat.le_of_ble_eq_true rfl) dX9_drift_119 ⟨Nat.zero_le _, Nat.zero_le _⟩ rfl rfl (fun H locs hP hD hS => ?_)
                    refine lv_aload_n hx hb dX9_drift_122 rfl (lv_at hl 3 rfl) ?_
                    refine lv_aload_n hx hb dX9_drift_123 rfl (lv_at hl 3 rfl) ?_
                    refine lv_bipush (v := 60) hx hb dX9_drift_124 (by decide) ?_
                    obtain ⟨r126, v_seed_126, hc126, hM⟩ := ob2_some hM
                    refine cl_vi (As := [.int (60 : Int32)]) (rest := [.ref h0]) (ci := 9) (q0 := 0) (wr := [(h0_parts, .inl (cy 2, 2, .inl v_parts)), (h0_rates, .inl (cy 2, 14, .inl v_rates)), (h0_mouths, .inl (cy 2, 2, .inl v_mouths)), (h0_persons, .inl (cy 2, 2, .inl v_persons)), (h0_interest, .inl (cy 2, 2, .inl v_interest)), (h0_now, .inl (cy 2, 60, .inl v_now_119))]) (ws2 := [(h0, .inr (9, [.int v_seed_126, oh0_1, oh0_2, .ref h0_parts, .ref h0_rates, oh0_5, oh0_6, .ref h0_mouths, .ref h0_persons, oh0_9, oh0_10, .ref h0_interest, oh0_12, oh0_13, oh0_14, oh0_15, oh0_16, oh0_17, oh0_18, oh0_19, oh0_20, oh0_21, .ref h0_now, oh0_23, oh0_24, oh0_25, oh0_26, oh0_27, oh0_28, oh0_29, oh0_30, oh0_31, oh0_32, oh0_33, oh0_34, oh0_35, oh0_36, oh0_37])), (h0_parts, .inl (cy 2, 2, .inl v_parts)), (h0_rates, .inl (cy 2, 14, .inl v_rates)), (h0_mouths, .inl (cy 2, 2, .inl v_mouths)), (h0_persons, .inl (cy 2, 2, .inl v_persons)), (h0_interest, .inl (cy 2, 2, .inl v_interest)), (h0_now, .inl (cy 2, 60, .inl v_now_119))]) (isC := [0]) (isR := [1, 2, 3, 4, 5, 6]) (pm := [6, 0, 1, 2, 3, 4, 5]) hx hb hml hown hts (c9_draw l D cy N h0 oh0_1 oh0_2 (.ref h0_parts) (.ref h0_rates) oh0_5 oh0_6 (.ref h0_mouths) (.ref h0_persons) oh0_9 oh0_10 (.ref h0_interest) oh0_12 oh0_13 oh0_14 oh0_15 oh0_16 oh0_17 oh0_18 oh0_19 oh0_20 oh0_21 (.ref h0_now) oh0_23 oh0_24 oh0_25 oh0_26 oh0_27 oh0_28 oh0_29 oh0_30 oh0_31 oh0_32 oh0_33 oh0_34 oh0_35 oh0_36 oh0_37 (60 : Int32) v_seed_89 r126 v_seed_126 hc126) (cwV 1 hts gX9_drift_X9_draw rfl rfl rfl (by decide +kernel) ⟨Nat.le_of_ble_eq_true rfl, Nat.le_of_ble_eq_true rfl⟩) hK hP hD hS hA rfl rfl rfl rfl rfl (by decide) rfl rfl rfl hl.1 (Nat.le_of_ble_eq_true rfl) dX9_drift_126 ⟨Nat.zero_le _, Nat.zero_le _⟩ rfl rfl (fun H locs hP hD hS => ?_)
                    obtain ⟨v_now_129, hc129, hM⟩ := ob1_some hM
                    refine cl_vv (As := [.int r126]) (rest := []) (ci := 9) (q0 := 0) (wr := [(h0_parts, .inl (cy 2, 2, .inl v_parts)), (h0_rates, .inl (cy 2, 14, .inl v_rates)), (h0_mouths, .inl (cy 2, 2, .inl v_mouths))]) (ws2 := [(h0, .inr (9, [.int v_seed_126, oh0_1, oh0_2, .ref h0_parts, .ref h0_rates, oh0_5, oh0_6, .ref h0_mouths, .ref h0_persons, oh0_9, oh0_10, .ref h0_interest, oh0_12, oh0_13, oh0_14, oh0_15, oh0_16, oh0_17, oh0_18, oh0_19, oh0_20, oh0_21, .ref h0_now, oh0_23, oh0_24, oh0_25, oh0_26, oh0_27, oh0_28, oh0_29, oh0_30, oh0_31, oh0_32, oh0_33, oh0_34, oh0_35, oh0_36, oh0_37])), (h0_parts, .inl (cy 2, 2, .inl v_parts)), (h0_rates, .inl (cy 2, 14, .inl v_rates)), (h0_mouths, .inl (cy 2, 2, .inl v_mouths)), (h0_persons, .inl (cy 2, 2, .inl v_persons)), (h0_interest, .inl (cy 2, 2, .inl v_interest)), (h0_now, .inl (cy 2, 60, .inl v_now_129))]) (isC := [0, 4, 5, 6]) (isR := [1, 2, 3]) (pm := [3, 0, 1, 2, 4, 5, 6]) hx hb hml hown hts (c9_passBy l D cy N h0 h0_persons h0_interest h0_now (.int v_seed_126) oh0_1 oh0_2 (.ref h0_parts) (.ref h0_rates) oh0_5 oh0_6 (.ref h0_mouths) oh0_9 oh0_10 oh0_12 oh0_13 oh0_14 oh0_15 oh0_16 oh0_17 oh0_18 oh0_19 oh0_20 oh0_21 oh0_23 oh0_24 oh0_25 oh0_26 oh0_27 oh0_28 oh0_29 oh0_30 oh0_31 oh0_32 oh0_33 oh0_34 oh0_35 oh0_36 oh0_37 r126 v_persons v_interest v_now_119 v_now_129 hc129) (cwV 1 hts gX9_drift_X9_passBy rfl rfl rfl (by decide +kernel) ⟨Nat.le_of_ble_eq_true rfl, Nat.le_of_ble_eq_true rfl⟩) hK hP hD hS hA rfl rfl rfl rfl rfl (by decide) rfl rfl rfl hl.1 (Nat.le_of_ble_eq_true rfl) dX9_drift_129 ⟨Nat.zero_le _, Nat.zero_le _⟩ rfl rfl (fun H locs hP hD hS => ?_)
                    refine lv_iinc (v := x2_50 + (1 : Int32)) (lv' := [(2, .int (x2_50 + (1 : Int32))), (5, .int (r89 + (1 : Int32))), (4, .int r81), (3, .int r62), (0, .ref h0), (1, .int p1)]) hx hb dX9_drift_132 hl (k := 5) rfl rfl (by decide) rfl (fun ls hl => ?_)
                    refine lv_goto (tgt := 50) hx hb dX9_drift_135 (by decide) ?_
                    exact ih (x2_50 + (1 : Int32)) v_seed_126 v_now_129 v_seed_e50 v_now_e50 _ _ _ hM hP hD hS (lv_sub hl [4, 5, 0] rfl) K
          obtain ⟨v_seed_e50, v_now_e50, hL50, hM⟩ := ob2_some hM
          refine L50 N (0 : Int32) v_seed v_now v_seed_e50 v_now_e50 _ _ _ hL50 hP hD hS (lv_sub hl [1, 2, 0] rfl) ?_
          intro H locs ls hP hD hS hl
          refine lv_aload_n hx hb dX9_drift_138 rfl (lv_at hl 0 rfl) ?_
          refine va_get (D := D) (ci := 9) (v := .ref h0_now) (C := RX9) (T := TX9) (N := 38) hx hb hts iX9 hown hK hP 0 rfl rfl 22 (by decide) k50 (fun _ h9 => h9) rfl dX9_drift_139 ?_
          refine lv_iconst (v := 0) hx hb dX9_drift_142 (by decide) ?_
          obtain ⟨h143, hM⟩ := gi_some hM
          refine va_iald hx hb hK hP 6 2 rfl rfl h143 dX9_drift_143 ?_
          obtain ⟨rfl, rfl, rfl⟩ := si3 hM
          exact hret _ _ _ _ _ dX9_drift_144 rfl rfl hP hD hS
        · have hM := g_neg c42 hM
          refine lv_ldc (v := -1000000004) hx hb hown k103 dX9_drift_45 ?_
          obtain ⟨rfl, rfl, rfl⟩ := si3 hM
          exact hret _ _ _ _ _ dX9_drift_47 rfl rfl hP hD hS
      · have hM := g_pos c28 hM
        refine lv_ldc (v := -1000000003) hx hb hown k197 dX9_drift_31 ?_
        obtain ⟨rfl, rfl, rfl⟩ := si3 hM
        exact hret _ _ _ _ _ dX9_drift_33 rfl rfl hP hD hS
  · have hM := g_pos c7 hM
    refine lv_ldc (v := -1000000002) hx hb hown k99 dX9_drift_10 ?_
    obtain ⟨rfl, rfl, rfl⟩ := si3 hM
    exact hret _ _ _ _ _ dX9_drift_12 rfl rfl hP hD hS

-- ===== X9_index index (II)I =====
abbrev r9_index : Room := { frames := 0, cells := 0, slots := 0, locals := 0 }
def f9_index (N : Nat) (p1 : Int32) (p2 : Int32) : Option Int32 :=
  some (((7 : Int32) * p1) + p2)
set_option maxHeartbeats 4000000 in
set_option maxRecDepth 100000 in
theorem c9_index (l : Launch) (D : va_G) (cy : Nat → ClassId) (N : Nat) (p1 : Int32) (p2 : Int32) (r : Int32) (hM : f9_index N p1 p2 = some r) (sz : Nat) : CTi l yX9_index wsX9_index r9_index [.int p1, .int p2] D cy sz [] [] r := by
  unfold f9_index at hM
  refine ct_oi (cc := cX9_index) (maxL := 2) (ty := .int) (by decide +kernel) rfl (Nat.le_of_ble_eq_true rfl) (lv0 := [(0, .int p1), (1, .int p2)]) rfl ?_
  intro p e s m args below meth c A Q ls hx hb hts hown hml hK hP hD hS hA hret hl
  have hown : s.vm.findClass RX9 = some m.cls := hown
  refine lv_bipush (v := 7) hx hb dX9_index_0 (by decide) ?_
  refine lv_iload_n hx hb dX9_index_2 rfl (lv_at hl 0 rfl) ?_
  refine lv_imul hx hb dX9_index_3 ?_
  refine lv_iload_n hx hb dX9_index_4 rfl (lv_at hl 1 rfl) ?_
  refine lv_iadd hx hb dX9_index_5 ?_
  obtain rfl := si1 hM
  exact hret _ _ _ _ _ dX9_index_6 rfl rfl hP hD hS
