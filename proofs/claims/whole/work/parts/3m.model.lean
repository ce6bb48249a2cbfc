-- ===== X9_isAble isAble (III)Z =====
abbrev r9_isAble : Room := { frames := 1, cells := 0, slots := 0, locals := 22 }
def f9_isAble (N : Nat) (p1 : Int32) (p2 : Int32) (p3 : Int32) (v_can : Nat → Int64) : Option Int32 :=
  ob1 (f9_in N p3 (0 : Int32) (6000 : Int32)) fun r5 => if r5 = (0 : Int32) then (some (0 : Int32)) else (ob1 (f9_index N p1 p2) fun r19 => gi (((94 : Int32) * r19) + (p3 / (64 : Int32))) 26978 (if (lg_cmp (((v_can (((94 : Int32) * r19) + (p3 / (64 : Int32))).toNatClampNeg) >>> ((p3 - p3 / (64 : Int32) * (64 : Int32)).toInt64 &&& 63)) &&& (1 : Int64)) (1 : Int64)) = (0 : Int32) then (some (1 : Int32)) else (some (0 : Int32))))
set_option maxHeartbeats 4000000 in
set_option maxRecDepth 100000 in
theorem c9_isAble (l : Launch) (D : va_G) (cy : Nat → ClassId) (N : Nat) (h0 h0_can : Nat) (oh0_0 oh0_1 oh0_2 oh0_3 oh0_4 oh0_5 oh0_6 oh0_7 oh0_8 oh0_9 oh0_10 oh0_11 oh0_12 oh0_13 oh0_14 oh0_15 oh0_16 oh0_17 oh0_18 oh0_19 oh0_20 oh0_21 oh0_22 oh0_23 oh0_24 oh0_25 oh0_26 oh0_27 oh0_29 oh0_30 oh0_31 oh0_32 oh0_33 oh0_34 oh0_35 oh0_36 oh0_37 : Value) (p1 : Int32) (p2 : Int32) (p3 : Int32) (v_can : Nat → Int64) (r : Int32) (hM : f9_isAble N p1 p2 p3 v_can = some r) (sz : Nat) : CTi l yX9_isAble wsX9_isAble r9_isAble [.ref h0, .int p1, .int p2, .int p3] D cy sz [(h0, .inr (9, [oh0_0, oh0_1, oh0_2, oh0_3, oh0_4, oh0_5, oh0_6, oh0_7, oh0_8, oh0_9, oh0_10, oh0_11, oh0_12, oh0_13, oh0_14, oh0_15, oh0_16, oh0_17, oh0_18, oh0_19, oh0_20, oh0_21, oh0_22, oh0_23, oh0_24, oh0_25, oh0_26, oh0_27, .ref h0_can, oh0_29, oh0_30, oh0_31, oh0_32, oh0_33, oh0_34, oh0_35, oh0_36, oh0_37])), (h0_can, .inl (cy 3, 26978, .inr (.inl v_can)))] [(h0, .inr (9, [oh0_0, oh0_1, oh0_2, oh0_3, oh0_4, oh0_5, oh0_6, oh0_7, oh0_8, oh0_9, oh0_10, oh0_11, oh0_12, oh0_13, oh0_14, oh0_15, oh0_16, oh0_17, oh0_18, oh0_19, oh0_20, oh0_21, oh0_22, oh0_23, oh0_24, oh0_25, oh0_26, oh0_27, .ref h0_can, oh0_29, oh0_30, oh0_31, oh0_32, oh0_33, oh0_34, oh0_35, oh0_36, oh0_37])), (h0_can, .inl (cy 3, 26978, .inr (.inl v_can)))] r := by
  unfold f9_isAble at hM
  refine ct_oi (cc := cX9_isAble) (maxL := 4) (ty := .boolean) (by decide +kernel) rfl (Nat.le_of_ble_eq_true rfl) (lv0 := [(0, .ref h0), (1, .int p1), (2, .int p2), (3, .int p3)]) rfl ?_
  intro p e s m args below meth c A Q ls hx hb hts hown hml hK hP hD hS hA hret hl
  have hown : s.vm.findClass RX9 = some m.cls := hown
  have k66 := hts (.fieldLink RX9 66 "CaveYearsModel" "can" "[J") (List.mem_of_getElem? (i := 1) (by decide +kernel))
  have iX9 := (fun w h => (List.mem_cons_of_mem _ (List.mem_append_right _ h)) : ∀ w ∈ wsX90, w ∈ wsX9_isAble)
  refine lv_iload_n hx hb dX9_isAble_0 rfl (lv_at hl 3 rfl) ?_
  refine lv_iconst (v := 0) hx hb dX9_isAble_1 (by decide) ?_
  refine lv_sipush (v := 6000) hx hb dX9_isAble_2 (by decide) ?_
  obtain ⟨r5, hc5, hM⟩ := ob1_some hM
  refine cl_si (As := [.int p3, .int (0 : Int32), .int (6000 : Int32)]) (rest := []) (wr := [(h0, .inr (9, [oh0_0, oh0_1, oh0_2, oh0_3, oh0_4, oh0_5, oh0_6, oh0_7, oh0_8, oh0_9, oh0_10, oh0_11, oh0_12, oh0_13, oh0_14, oh0_15, oh0_16, oh0_17, oh0_18, oh0_19, oh0_20, oh0_21, oh0_22, oh0_23, oh0_24, oh0_25, oh0_26, oh0_27, .ref h0_can, oh0_29, oh0_30, oh0_31, oh0_32, oh0_33, oh0_34, oh0_35, oh0_36, oh0_37])), (h0_can, .inl (cy 3, 26978, .inr (.inl v_can)))]) (ws2 := [(h0, .inr (9, [oh0_0, oh0_1, oh0_2, oh0_3, oh0_4, oh0_5, oh0_6, oh0_7, oh0_8, oh0_9, oh0_10, oh0_11, oh0_12, oh0_13, oh0_14, oh0_15, oh0_16, oh0_17, oh0_18, oh0_19, oh0_20, oh0_21, oh0_22, oh0_23, oh0_24, oh0_25, oh0_26, oh0_27, .ref h0_can, oh0_29, oh0_30, oh0_31, oh0_32, oh0_33, oh0_34, oh0_35, oh0_36, oh0_37])), (h0_can, .inl (cy 3, 26978, .inr (.inl v_can)))]) (isC := []) (isR := [0, 1]) (pm := [0, 1]) hx hb hml hown hts (c9_in l D cy N p3 (0 : Int32) (6000 : Int32) r5 hc5) (va_cwS 3 hts gX9_isAble_X9_in rfl rfl rfl (by decide +kernel) ⟨Nat.le_of_ble_eq_true rfl, Nat.le_of_ble_eq_true rfl⟩) hK hP hD hS hA rfl rfl rfl (by decide) rfl rfl rfl hl.1 (Nat.le_of_ble_eq_true rfl) dX9_isAble_5 ⟨Nat.zero_le _, Nat.zero_le _⟩ rfl rfl (fun H locs hP hD hS => ?_)
  refine lv_if_eq (tgt := 45) hx hb dX9_isAble_8 (by decide) (fun c8 => ?_) (fun c8 => ?_)
  · have hM := g_pos c8 hM
    refine lv_iconst (v := 0) hx hb dX9_isAble_45 (by decide) ?_
    obtain rfl := si1 hM
    exact hret _ _ _ _ _ dX9_isAble_46 rfl rfl hP hD hS
  · have hM := g_neg c8 hM
    refine lv_aload_n hx hb dX9_isAble_11 rfl (lv_at hl 0 rfl) ?_
    refine va_get (D := D) (ci := 9) (v := .ref h0_can) (C := RX9) (T := TX9) (N := 38) hx hb hts iX9 hown hK hP 0 rfl rfl 28 (by decide) k66 (fun _ h9 => h9) rfl dX9_isAble_12 ?_
    refine lv_bipush (v := 94) hx hb dX9_isAble_15 (by decide) ?_
    refine lv_iload_n hx hb dX9_isAble_17 rfl (lv_at hl 1 rfl) ?_
    refine lv_iload_n hx hb dX9_isAble_18 rfl (lv_at hl 2 rfl) ?_
    obtain ⟨r19, hc19, hM⟩ := ob1_some hM
    refine cl_si (As := [.int p1, .int p2]) (rest := [.int (94 : Int32), .ref h0_can]) (wr := [(h0, .inr (9, [oh0_0, oh0_1, oh0_2, oh0_3, oh0_4, oh0_5, oh0_6, oh0_7, oh0_8, oh0_9, oh0_10, oh0_11, oh0_12, oh0_13, oh0_14, oh0_15, oh0_16, oh0_17, oh0_18, oh0_19, oh0_20, oh0_21, oh0_22, oh0_23, oh0_24, oh0_25, oh0_26, oh0_27, .ref h0_can, oh0_29, oh0_30, oh0_31, oh0_32, oh0_33, oh0_34, oh0_35, oh0_36, oh0_37])), (h0_can, .inl (cy 3, 26978, .inr (.inl v_can)))]) (ws2 := [(h0, .inr (9, [oh0_0, oh0_1, oh0_2, oh0_3, oh0_4, oh0_5, oh0_6, oh0_7, oh0_8, oh0_9, oh0_10, oh0_11, oh0_12, oh0_13, oh0_14, oh0_15, oh0_16, oh0_17, oh0_18, oh0_19, oh0_20, oh0_21, oh0_22, oh0_23, oh0_24, oh0_25, oh0_26, oh0_27, .ref h0_can, oh0_29, oh0_30, oh0_31, oh0_32, oh0_33, oh0_34, oh0_35, oh0_36, oh0_37])), (h0_can, .inl (cy 3, 26978, .inr (.inl v_can)))]) (isC := []) (isR := [0, 1]) (pm := [0, 1]) hx hb hml hown hts (c9_index l D cy N p1 p2 r19 hc19) (va_cwS 2 hts gX9_isAble_X9_index rfl rfl rfl (by decide +kernel) ⟨Nat.le_of_ble_eq_true rfl, Nat.le_of_ble_eq_true rfl⟩) hK hP hD hS hA rfl rfl rfl (by decide) rfl rfl rfl hl.1 (Nat.le_of_ble_eq_true rfl) dX9_isAble_19 ⟨Nat.zero_le _, Nat.zero_le _⟩ rfl rfl (fun H locs hP hD hS => ?_)
    refine lv_imul hx hb dX9_isAble_22 ?_
    refine lv_iload_n hx hb dX9_isAble_23 rfl (lv_at hl 3 rfl) ?_
    refine lv_bipush (v := 64) hx hb dX9_isAble_24 (by decide) ?_
    refine lv_idiv hx hb dX9_isAble_26 (by decide) ?_
    refine lv_iadd hx hb dX9_isAble_27 ?_
    obtain ⟨h28, hM⟩ := gi_some hM
    refine va_lald hx hb hK hP 1 3 rfl rfl h28 dX9_isAble_28 ?_
    refine lv_iload_n hx hb dX9_isAble_29 rfl (lv_at hl 3 rfl) ?_
    refine lv_bipush (v := 64) hx hb dX9_isAble_30 (by decide) ?_
    refine lv_irem hx hb dX9_isAble_32 (by decide) ?_
    refine lv_lshr (v := ((v_can (((94 : Int32) * r19) + (p3 / (64 : Int32))).toNatClampNeg) >>> ((p3 - p3 / (64 : Int32) * (64 : Int32)).toInt64 &&& 63))) hx hb dX9_isAble_33 rfl ?_
    refine lv_lconst (v := 1) hx hb dX9_isAble_34 (by decide) ?_
    refine lv_land hx hb dX9_isAble_35 ?_
    refine lv_lconst (v := 1) hx hb dX9_isAble_36 (by decide) ?_
    refine W.lcmp hx hb dX9_isAble_37 ?_
    refine lv_if_ne (tgt := 45) hx hb dX9_isAble_38 (by decide) (fun c38 => ?_) (fun c38 => ?_)
    · have hM := g_neg c38 hM
      refine lv_iconst (v := 0) hx hb dX9_isAble_45 (by decide) ?_
      obtain rfl := si1 hM
      exact hret _ _ _ _ _ dX9_isAble_46 rfl rfl hP hD hS
    · have hM := g_pos c38 hM
      refine lv_iconst (v := 1) hx hb dX9_isAble_41 (by decide) ?_
      refine lv_goto (tgt := 46) hx hb dX9_isAble_42 (by decide) ?_
      obtain rfl := si1 hM
      exact hret _ _ _ _ _ dX9_isAble_46 rfl rfl hP hD hS

-- ===== X9_addShifted addShifted (III)V =====
abbrev r9_addShifted : Room := { frames := 0, cells := 0, slots := 0, locals := 0 }
def f9_addShifted_L16 (N : Nat) (p1 : Int32) (p2 : Int32) (p3 : Int32) : Nat → Int32 → (Nat → Int64) → Option (Nat → Int64)
  | 0, _, _ => none
  | n + 1, x6_16, v_can_16 => if x6_16 < (p3 / (64 : Int32)) then (some v_can_16) else (gi ((p2 + x6_16) - (p3 / (64 : Int32))) 26978 (if (p3 - p3 / (64 : Int32) * (64 : Int32)) ≤ (0 : Int32) then (gi (p1 + x6_16) 26978 (gi (p1 + x6_16) 26978 ((f9_addShifted_L16 N p1 p2 p3 n) (x6_16 + (-1 : Int32)) (vp_updL v_can_16 (p1 + x6_16).toNatClampNeg ((v_can_16 (p1 + x6_16).toNatClampNeg) ||| ((v_can_16 ((p2 + x6_16) - (p3 / (64 : Int32))).toNatClampNeg) <<< ((p3 - p3 / (64 : Int32) * (64 : Int32)).toInt64 &&& 63))))))) else (if x6_16 ≤ (p3 / (64 : Int32)) then (gi (p1 + x6_16) 26978 (gi (p1 + x6_16) 26978 ((f9_addShifted_L16 N p1 p2 p3 n) (x6_16 + (-1 : Int32)) (vp_updL v_can_16 (p1 + x6_16).toNatClampNeg ((v_can_16 (p1 + x6_16).toNatClampNeg) ||| ((v_can_16 ((p2 + x6_16) - (p3 / (64 : Int32))).toNatClampNeg) <<< ((p3 - p3 / (64 : Int32) * (64 : Int32)).toInt64 &&& 63))))))) else (gi (((p2 + x6_16) - (p3 / (64 : Int32))) - (1 : Int32)) 26978 (gi (p1 + x6_16) 26978 (gi (p1 + x6_16) 26978 ((f9_addShifted_L16 N p1 p2 p3 n) (x6_16 + (-1 : Int32)) (vp_updL v_can_16 (p1 + x6_16).toNatClampNeg ((v_can_16 (p1 + x6_16).toNatClampNeg) ||| (((v_can_16 ((p2 + x6_16) - (p3 / (64 : Int32))).toNatClampNeg) <<< ((p3 - p3 / (64 : Int32) * (64 : Int32)).toInt64 &&& 63)) ||| (((v_can_16 (((p2 + x6_16) - (p3 / (64 : Int32))) - (1 : Int32)).toNatClampNeg).toUInt64 >>> (((64 : Int32) - (p3 - p3 / (64 : Int32) * (64 : Int32))).toInt64.toUInt64 &&& Int64.toUInt64 63)).toInt64)))))))))))
def f9_addShifted (N : Nat) (p1 : Int32) (p2 : Int32) (p3 : Int32) (v_can : Nat → Int64) : Option (Nat → Int64) :=
  ob1 (f9_addShifted_L16 N p1 p2 p3 N (93 : Int32) v_can) fun v_can_e16 => some v_can_e16
set_option maxHeartbeats 4000000 in
set_option maxRecDepth 100000 in
theorem c9_addShifted (l : Launch) (D : va_G) (cy : Nat → ClassId) (N : Nat) (h0 h0_can : Nat) (oh0_0 oh0_1 oh0_2 oh0_3 oh0_4 oh0_5 oh0_6 oh0_7 oh0_8 oh0_9 oh0_10 oh0_11 oh0_12 oh0_13 oh0_14 oh0_15 oh0_16 oh0_17 oh0_18 oh0_19 oh0_20 oh0_21 oh0_22 oh0_23 oh0_24 oh0_25 oh0_26 oh0_27 oh0_29 oh0_30 oh0_31 oh0_32 oh0_33 oh0_34 oh0_35 oh0_36 oh0_37 : Value) (p1 : Int32) (p2 : Int32) (p3 : Int32) (v_can : Nat → Int64) (nv_can : Nat → Int64) (hM : f9_addShifted N p1 p2 p3 v_can = some nv_can) (sz : Nat) : CTv l yX9_addShifted wsX9_addShifted r9_addShifted [.ref h0, .int p1, .int p2, .int p3] D cy sz [(h0, .inr (9, [oh0_0, oh0_1, oh0_2, oh0_3, oh0_4, oh0_5, oh0_6, oh0_7, oh0_8, oh0_9, oh0_10, oh0_11, oh0_12, oh0_13, oh0_14, oh0_15, oh0_16, oh0_17, oh0_18, oh0_19, oh0_20, oh0_21, oh0_22, oh0_23, oh0_24, oh0_25, oh0_26, oh0_27, .ref h0_can, oh0_29, oh0_30, oh0_31, oh0_32, oh0_33, oh0_34, oh0_35, oh0_36, oh0_37])), (h0_can, .inl (cy 3, 26978, .inr (.inl v_can)))] [(h0, .inr (9, [oh0_0, oh0_1, oh0_2, oh0_3, oh0_4, oh0_5, oh0_6, oh0_7, oh0_8, oh0_9, oh0_10, oh0_11, oh0_12, oh0_13, oh0_14, oh0_15, oh0_16, oh0_17, oh0_18, oh0_19, oh0_20, oh0_21, oh0_22, oh0_23, oh0_24, oh0_25, oh0_26, oh0_27, .ref h0_can, oh0_29, oh0_30, oh0_31, oh0_32, oh0_33, oh0_34, oh0_35, oh0_36, oh0_37])), (h0_can, .inl (cy 3, 26978, .inr (.inl nv_can)))] := by
  unfold f9_addShifted at hM
  refine ct_ov (cc := cX9_addShifted) (maxL := 9)  (by decide +kernel) rfl (Nat.le_of_ble_eq_true rfl) (lv0 := [(0, .ref h0), (1, .int p1), (2, .int p2), (3, .int p3)]) rfl ?_
  intro p e s m args below meth c A Q ls hx hb hts hown hml hK hP hD hS hA hret hl
  have hown : s.vm.findClass RX9 = some m.cls := hown
  have k66 := hts (.fieldLink RX9 66 "CaveYearsModel" "can" "[J") (List.mem_of_getElem? (i := 1) (by decide +kernel))
  have iX9 := (fun w h => (List.mem_cons_of_mem _ (List.mem_append_right _ h)) : ∀ w ∈ wsX90, w ∈ wsX9_addShifted)
  refine lv_iload_n hx hb dX9_addShifted_0 rfl (lv_at hl 3 rfl) ?_
  refine lv_bipush (v := 64) hx hb dX9_addShifted_1 (by decide) ?_
  refine lv_idiv hx hb dX9_addShifted_3 (by decide) ?_
  refine lv_istore (lv' := [(4, .int (p3 / (64 : Int32))), (0, .ref h0), (1, .int p1), (2, .int p2), (3, .int p3)]) hx hb dX9_addShifted_4 hl (by decide) rfl (fun ls hl => ?_)
  refine lv_iload_n hx hb dX9_addShifted_6 rfl (lv_at hl 4 rfl) ?_
  refine lv_bipush (v := 64) hx hb dX9_addShifted_7 (by decide) ?_
  refine lv_irem hx hb dX9_addShifted_9 (by decide) ?_
  refine lv_istore (lv' := [(5, .int (p3 - p3 / (64 : Int32) * (64 : Int32))), (4, .int (p3 / (64 : Int32))), (0, .ref h0), (1, .int p1), (2, .int p2), (3, .int p3)]) hx hb dX9_addShifted_10 hl (by decide) rfl (fun ls hl => ?_)
  refine lv_bipush (v := 93) hx hb dX9_addShifted_12 (by decide) ?_
  refine lv_istore (lv' := [(6, .int (93 : Int32)), (5, .int (p3 - p3 / (64 : Int32) * (64 : Int32))), (4, .int (p3 / (64 : Int32))), (0, .ref h0), (1, .int p1), (2, .int p2), (3, .int p3)]) hx hb dX9_addShifted_14 hl (by decide) rfl (fun ls hl => ?_)
  have L16 : ∀ (n : Nat) (x6_16 : Int32) (v_can_16 : Nat → Int64) (v_can_e16 : Nat → Int64) (H : Heap) (locs : List Loc) (ls : Array Slot), f9_addShifted_L16 N p1 p2 p3 n x6_16 v_can_16 = some v_can_e16 → va_P D vwCl [(h0, .inr (9, [oh0_0, oh0_1, oh0_2, oh0_3, oh0_4, oh0_5, oh0_6, oh0_7, oh0_8, oh0_9, oh0_10, oh0_11, oh0_12, oh0_13, oh0_14, oh0_15, oh0_16, oh0_17, oh0_18, oh0_19, oh0_20, oh0_21, oh0_22, oh0_23, oh0_24, oh0_25, oh0_26, oh0_27, .ref h0_can, oh0_29, oh0_30, oh0_31, oh0_32, oh0_33, oh0_34, oh0_35, oh0_36, oh0_37])), (h0_can, .inl (cy 3, 26978, .inr (.inl v_can_16)))] H → va_D A [(h0, .inr (9, [oh0_0, oh0_1, oh0_2, oh0_3, oh0_4, oh0_5, oh0_6, oh0_7, oh0_8, oh0_9, oh0_10, oh0_11, oh0_12, oh0_13, oh0_14, oh0_15, oh0_16, oh0_17, oh0_18, oh0_19, oh0_20, oh0_21, oh0_22, oh0_23, oh0_24, oh0_25, oh0_26, oh0_27, .ref h0_can, oh0_29, oh0_30, oh0_31, oh0_32, oh0_33, oh0_34, oh0_35, oh0_36, oh0_37])), (h0_can, .inl (cy 3, 26978, .inr (.inl v_can_16)))] → va_S A s.heap H locs → lv_has ls 9 [(0, .ref h0), (1, .int p1), (2, .int p2), (4, .int (p3 / (64 : Int32))), (5, .int (p3 - p3 / (64 : Int32) * (64 : Int32))), (6, .int x6_16)] → (∀ (H : Heap) (locs : List Loc) (ls : Array Slot), va_P D vwCl [(h0, .inr (9, [oh0_0, oh0_1, oh0_2, oh0_3, oh0_4, oh0_5, oh0_6, oh0_7, oh0_8, oh0_9, oh0_10, oh0_11, oh0_12, oh0_13, oh0_14, oh0_15, oh0_16, oh0_17, oh0_18, oh0_19, oh0_20, oh0_21, oh0_22, oh0_23, oh0_24, oh0_25, oh0_26, oh0_27, .ref h0_can, oh0_29, oh0_30, oh0_31, oh0_32, oh0_33, oh0_34, oh0_35, oh0_36, oh0_37])), (h0_can, .inl (cy 3, 26978, .inr (.inl v_can_e16)))] H → va_D A [(h0, .inr (9, [oh0_0, oh0_1, oh0_2, oh0_3, oh0_4, oh0_5, oh0_6, oh0_7, oh0_8, oh0_9, oh0_10, oh0_11, oh0_12, oh0_13, oh0_14, oh0_15, oh0_16, oh0_17, oh0_18, oh0_19, oh0_20, oh0_21, oh0_22, oh0_23, oh0_24, oh0_25, oh0_26, oh0_27, .ref h0_can, oh0_29, oh0_30, oh0_31, oh0_32, oh0_33, oh0_34, oh0_35, oh0_36, oh0_37])), (h0_can, .inl (cy 3, 26978, .inr (.inl v_can_e16)))] → va_S A s.heap H locs → lv_has ls 9 [] → W p l e r9_addShifted s m args below meth c H locs 0 0 Q (F0 m 97 ls [])) → W p l e r9_addShifted s m args below meth c H locs 0 0 Q (F0 m 16 ls []) := by
    intro n16
    induction n16 with
    | zero =>
      intro x6_16 v_can_16 v_can_e16 H locs ls hM
      exact absurd hM (by simp [f9_addShifted_L16])
    | succ n16 ih16 =>
      intro x6_16 v_can_16 v_can_e16 H locs ls hM hP hD hS hl K
      rw [f9_addShifted_L16] at hM
      refine lv_iload hx hb dX9_addShifted_16 (lv_at hl 5 rfl) ?_
      refine lv_iload hx hb dX9_addShifted_18 (lv_at hl 3 rfl) ?_
      refine lv_icmp_lt (tgt := 97) hx hb dX9_addShifted_20 (by decide) (fun c20 => ?_) (fun c20 => ?_)
      · have hM := g_pos c20 hM
        obtain rfl := si1 hM
        exact K _ _ _ hP hD hS (lv_sub hl [] rfl)
      · have hM := g_neg c20 hM
        refine lv_aload_n hx hb dX9_addShifted_23 rfl (lv_at hl 0 rfl) ?_
        refine va_get (D := D) (ci := 9) (v := .ref h0_can) (C := RX9) (T := TX9) (N := 38) hx hb hts iX9 hown hK hP 0 rfl rfl 28 (by decide) k66 (fun _ h9 => h9) rfl dX9_addShifted_24 ?_
        refine lv_iload_n hx hb dX9_addShifted_27 rfl (lv_at hl 2 rfl) ?_
        refine lv_iload hx hb dX9_addShifted_28 (lv_at hl 5 rfl) ?_
        refine lv_iadd hx hb dX9_addShifted_30 ?_
        refine lv_iload hx hb dX9_addShifted_31 (lv_at hl 3 rfl) ?_
        refine lv_isub hx hb dX9_addShifted_33 ?_
        obtain ⟨h34, hM⟩ := gi_some hM
        refine va_lald hx hb hK hP 1 3 rfl rfl h34 dX9_addShifted_34 ?_
        refine lv_iload hx hb dX9_addShifted_35 (lv_at hl 4 rfl) ?_
        refine lv_lshl (v := ((v_can_16 ((p2 + x6_16) - (p3 / (64 : Int32))).toNatClampNeg) <<< ((p3 - p3 / (64 : Int32) * (64 : Int32)).toInt64 &&& 63))) hx hb dX9_addShifted_37 rfl ?_
        refine lv_lstore (lv' := [(7, .long ((v_can_16 ((p2 + x6_16) - (p3 / (64 : Int32))).toNatClampNeg) <<< ((p3 - p3 / (64 : Int32) * (64 : Int32)).toInt64 &&& 63))), (0, .ref h0), (1, .int p1), (2, .int p2), (4, .int (p3 / (64 : Int32))), (5, .int (p3 - p3 / (64 : Int32) * (64 : Int32))), (6, .int x6_16)]) hx hb dX9_addShifted_38 hl (by decide) rfl (fun ls hl => ?_)
        refine lv_iload hx hb dX9_addShifted_40 (lv_at hl 5 rfl) ?_
        refine lv_if_le (tgt := 77) hx hb dX9_addShifted_42 (by decide) (fun c42 => ?_) (fun c42 => ?_)
        · have hM := g_pos c42 hM
          refine lv_aload_n hx hb dX9_addShifted_77 rfl (lv_at hl 1 rfl) ?_
          refine va_get (D := D) (ci := 9) (v := .ref h0_can) (C := RX9) (T := TX9) (N := 38) hx hb hts iX9 hown hK hP 0 rfl rfl 28 (by decide) k66 (fun _ h9 => h9) rfl dX9_addShifted_78 ?_
          refine lv_iload_n hx hb dX9_addShifted_81 rfl (lv_at hl 2 rfl) ?_
          refine lv_iload hx hb dX9_addShifted_82 (lv_at hl 6 rfl) ?_
          refine lv_iadd hx hb dX9_addShifted_84 ?_
          refine lv_dup2_11 hx hb dX9_addShifted_85 rfl rfl ?_
          obtain ⟨h86, hM⟩ := gi_some hM
          refine va_lald hx hb hK hP 1 3 rfl rfl h86 dX9_addShifted_86 ?_
          refine lv_lload hx hb dX9_addShifted_87 (lv_at hl 0 rfl) ?_
          refine lv_lor hx hb dX9_addShifted_89 ?_
          obtain ⟨h90, hM⟩ := gi_some hM
          refine va_last hx hb hK hP hD hS 1 3 rfl rfl h90 dX9_addShifted_90 (fun H locs hP hD hS => ?_)
          have hP : va_P D vwCl [(h0, .inr (9, [oh0_0, oh0_1, oh0_2, oh0_3, oh0_4, oh0_5, oh0_6, oh0_7, oh0_8, oh0_9, oh0_10, oh0_11, oh0_12, oh0_13, oh0_14, oh0_15, oh0_16, oh0_17, oh0_18, oh0_19, oh0_20, oh0_21, oh0_22, oh0_23, oh0_24, oh0_25, oh0_26, oh0_27, .ref h0_can, oh0_29, oh0_30, oh0_31, oh0_32, oh0_33, oh0_34, oh0_35, oh0_36, oh0_37])), (h0_can, .inl (cy 3, 26978, .inr (.inl (vp_updL v_can_16 (p1 + x6_16).toNatClampNeg ((v_can_16 (p1 + x6_16).toNatClampNeg) ||| ((v_can_16 ((p2 + x6_16) - (p3 / (64 : Int32))).toNatClampNeg) <<< ((p3 - p3 / (64 : Int32) * (64 : Int32)).toInt64 &&& 63)))))))] H := hP
          have hD : va_D A [(h0, .inr (9, [oh0_0, oh0_1, oh0_2, oh0_3, oh0_4, oh0_5, oh0_6, oh0_7, oh0_8, oh0_9, oh0_10, oh0_11, oh0_12, oh0_13, oh0_14, oh0_15, oh0_16, oh0_17, oh0_18, oh0_19, oh0_20, oh0_21, oh0_22, oh0_23, oh0_24, oh0_25, oh0_26, oh0_27, .ref h0_can, oh0_29, oh0_30, oh0_31, oh0_32, oh0_33, oh0_34, oh0_35, oh0_36, oh0_37])), (h0_can, .inl (cy 3, 26978, .inr (.inl (vp_updL v_can_16 (p1 + x6_16).toNatClampNeg ((v_can_16 (p1 + x6_16).toNatClampNeg) ||| ((v_can_16 ((p2 + x6_16) - (p3 / (64 : Int32))).toNatClampNeg) <<< ((p3 - p3 / (64 : Int32) * (64 : Int32)).toInt64 &&& 63)))))))] := hD
          refine lv_iinc (v := x6_16 + (-1 : Int32)) (lv' := [(6, .int (x6_16 + (-1 : Int32))), (7, .long ((v_can_16 ((p2 + x6_16) - (p3 / (64 : Int32))).toNatClampNeg) <<< ((p3 - p3 / (64 : Int32) * (64 : Int32)).toInt64 &&& 63))), (0, .ref h0), (1, .int p1), (2, .int p2), (4, .int (p3 / (64 : Int32))), (5, .int (p3 - p3 / (64 : Int32) * (64 : Int32)))]) hx hb dX9_addShifted_91 hl (k := 6) rfl rfl (by decide) rfl (fun ls hl => ?_)
          refine lv_goto (tgt := 16) hx hb dX9_addShifted_94 (by decide) ?_
          exact ih16 (x6_16 + (-1 : Int32)) (vp_updL v_can_16 (p1 + x6_16).toNatClampNeg ((v_can_16 (p1 + x6_16).toNatClampNeg) ||| ((v_can_16 ((p2 + x6_16) - (p3 / (64 : Int32))).toNatClampNeg) <<< ((p3 - p3 / (64 : Int32) * (64 : Int32)).toInt64 &&& 63)))) v_can_e16 _ _ _ hM hP hD hS (lv_sub hl [2, 3, 4, 5, 6, 0] rfl) K
        · have hM := g_neg c42 hM
          refine lv_iload hx hb dX9_addShifted_45 (lv_at hl 6 rfl) ?_
          refine lv_iload hx hb dX9_addShifted_47 (lv_at hl 4 rfl) ?_
          refine lv_icmp_le (tgt := 77) hx hb dX9_addShifted_49 (by decide) (fun c49 => ?_) (fun c49 => ?_)
          · have hM := g_pos c49 hM
            refine lv_aload_n hx hb dX9_addShifted_77 rfl (lv_at hl 1 rfl) ?_
            refine va_get (D := D) (ci := 9) (v := .ref h0_can) (C := RX9) (T := TX9) (N := 38) hx hb hts iX9 hown hK hP 0 rfl rfl 28 (by decide) k66 (fun _ h9 => h9) rfl dX9_addShifted_78 ?_
            refine lv_iload_n hx hb dX9_addShifted_81 rfl (lv_at hl 2 rfl) ?_
            refine lv_iload hx hb dX9_addShifted_82 (lv_at hl 6 rfl) ?_
            refine lv_iadd hx hb dX9_addShifted_84 ?_
            refine lv_dup2_11 hx hb dX9_addShifted_85 rfl rfl ?_
            obtain ⟨h86, hM⟩ := gi_some hM
            refine va_lald hx hb hK hP 1 3 rfl rfl h86 dX9_addShifted_86 ?_
            refine lv_lload hx hb dX9_addShifted_87 (lv_at hl 0 rfl) ?_
            refine lv_lor hx hb dX9_addShifted_89 ?_
            obtain ⟨h90, hM⟩ := gi_some hM
            refine va_last hx hb hK hP hD hS 1 3 rfl rfl h90 dX9_addShifted_90 (fun H locs hP hD hS => ?_)
            have hP : va_P D vwCl [(h0, .inr (9, [oh0_0, oh0_1, oh0_2, oh0_3, oh0_4, oh0_5, oh0_6, oh0_7, oh0_8, oh0_9, oh0_10, oh0_11, oh0_12, oh0_13, oh0_14, oh0_15, oh0_16, oh0_17, oh0_18, oh0_19, oh0_20, oh0_21, oh0_22, oh0_23, oh0_24, oh0_25, oh0_26, oh0_27, .ref h0_can, oh0_29, oh0_30, oh0_31, oh0_32, oh0_33, oh0_34, oh0_35, oh0_36, oh0_37])), (h0_can, .inl (cy 3, 26978, .inr (.inl (vp_updL v_can_16 (p1 + x6_16).toNatClampNeg ((v_can_16 (p1 + x6_16).toNatClampNeg) ||| ((v_can_16 ((p2 + x6_16) - (p3 / (64 : Int32))).toNatClampNeg) <<< ((p3 - p3 / (64 : Int32) * (64 : Int32)).toInt64 &&& 63)))))))] H := hP
            have hD : va_D A [(h0, .inr (9, [oh0_0, oh0_1, oh0_2, oh0_3, oh0_4, oh0_5, oh0_6, oh0_7, oh0_8, oh0_9, oh0_10, oh0_11, oh0_12, oh0_13, oh0_14, oh0_15, oh0_16, oh0_17, oh0_18, oh0_19, oh0_20, oh0_21, oh0_22, oh0_23, oh0_24, oh0_25, oh0_26, oh0_27, .ref h0_can, oh0_29, oh0_30, oh0_31, oh0_32, oh0_33, oh0_34, oh0_35, oh0_36, oh0_37])), (h0_can, .inl (cy 3, 26978, .inr (.inl (vp_updL v_can_16 (p1 + x6_16).toNatClampNeg ((v_can_16 (p1 + x6_16).toNatClampNeg) ||| ((v_can_16 ((p2 + x6_16) - (p3 / (64 : Int32))).toNatClampNeg) <<< ((p3 - p3 / (64 : Int32) * (64 : Int32)).toInt64 &&& 63)))))))] := hD
            refine lv_iinc (v := x6_16 + (-1 : Int32)) (lv' := [(6, .int (x6_16 + (-1 : Int32))), (7, .long ((v_can_16 ((p2 + x6_16) - (p3 / (64 : Int32))).toNatClampNeg) <<< ((p3 - p3 / (64 : Int32) * (64 : Int32)).toInt64 &&& 63))), (0, .ref h0), (1, .int p1), (2, .int p2), (4, .int (p3 / (64 : Int32))), (5, .int (p3 - p3 / (64 : Int32) * (64 : Int32)))]) hx hb dX9_addShifted_91 hl (k := 6) rfl rfl (by decide) rfl (fun ls hl => ?_)
            refine lv_goto (tgt := 16) hx hb dX9_addShifted_94 (by decide) ?_
            exact ih16 (x6_16 + (-1 : Int32)) (vp_updL v_can_16 (p1 + x6_16).toNatClampNeg ((v_can_16 (p1 + x6_16).toNatClampNeg) ||| ((v_can_16 ((p2 + x6_16) - (p3 / (64 : Int32))).toNatClampNeg) <<< ((p3 - p3 / (64 : Int32) * (64 : Int32)).toInt64 &&& 63)))) v_can_e16 _ _ _ hM hP hD hS (lv_sub hl [2, 3, 4, 5, 6, 0] rfl) K
          · have hM := g_neg c49 hM
            refine lv_lload hx hb dX9_addShifted_52 (lv_at hl 0 rfl) ?_
            refine lv_aload_n hx hb dX9_addShifted_54 rfl (lv_at hl 1 rfl) ?_
            refine va_get (D := D) (ci := 9) (v := .ref h0_can) (C := RX9) (T := TX9) (N := 38) hx hb hts iX9 hown hK hP 0 rfl rfl 28 (by decide) k66 (fun _ h9 => h9) rfl dX9_addShifted_55 ?_
            refine lv_iload_n hx hb dX9_addShifted_58 rfl (lv_at hl 3 rfl) ?_
            refine lv_iload hx hb dX9_addShifted_59 (lv_at hl 6 rfl) ?_
            refine lv_iadd hx hb dX9_addShifted_61 ?_
            refine lv_iload hx hb dX9_addShifted_62 (lv_at hl 4 rfl) ?_
            refine lv_isub hx hb dX9_addShifted_64 ?_
            refine lv_iconst (v := 1) hx hb dX9_addShifted_65 (by decide) ?_
            refine lv_isub hx hb dX9_addShifted_66 ?_
            obtain ⟨h67, hM⟩ := gi_some hM
            refine va_lald hx hb hK hP 1 3 rfl rfl h67 dX9_addShifted_67 ?_
            refine lv_bipush (v := 64) hx hb dX9_addShifted_68 (by decide) ?_
            refine lv_iload hx hb dX9_addShifted_70 (lv_at hl 5 rfl) ?_
            refine lv_isub hx hb dX9_addShifted_72 ?_
            refine lv_lushr (v := ((v_can_16 (((p2 + x6_16) - (p3 / (64 : Int32))) - (1 : Int32)).toNatClampNeg).toUInt64 >>> (((64 : Int32) - (p3 - p3 / (64 : Int32) * (64 : Int32))).toInt64.toUInt64 &&& Int64.toUInt64 63)).toInt64) hx hb dX9_addShifted_73 rfl ?_
            refine lv_lor hx hb dX9_addShifted_74 ?_
            refine lv_lstore (lv' := [(7, .long (((v_can_16 ((p2 + x6_16) - (p3 / (64 : Int32))).toNatClampNeg) <<< ((p3 - p3 / (64 : Int32) * (64 : Int32)).toInt64 &&& 63)) ||| (((v_can_16 (((p2 + x6_16) - (p3 / (64 : Int32))) - (1 : Int32)).toNatClampNeg).toUInt64 >>> (((64 : Int32) - (p3 - p3 / (64 : Int32) * (64 : Int32))).toInt64.toUInt64 &&& Int64.toUInt64 63)).toInt64))), (0, .ref h0), (1, .int p1), (2, .int p2), (4, .int (p3 / (64 : Int32))), (5, .int (p3 - p3 / (64 : Int32) * (64 : Int32))), (6, .int x6_16)]) hx hb dX9_addShifted_75 hl (by decide) rfl (fun ls hl => ?_)
            refine lv_aload_n hx hb dX9_addShifted_77 rfl (lv_at hl 1 rfl) ?_
            refine va_get (D := D) (ci := 9) (v := .ref h0_can) (C := RX9) (T := TX9) (N := 38) hx hb hts iX9 hown hK hP 0 rfl rfl 28 (by decide) k66 (fun _ h9 => h9) rfl dX9_addShifted_78 ?_
            refine lv_iload_n hx hb dX9_addShifted_81 rfl (lv_at hl 2 rfl) ?_
            refine lv_iload hx hb dX9_addShifted_82 (lv_at hl 6 rfl) ?_
            refine lv_iadd hx hb dX9_addShifted_84 ?_
            refine lv_dup2_11 hx hb dX9_addShifted_85 rfl rfl ?_
            obtain ⟨h86, hM⟩ := gi_some hM
            refine va_lald hx hb hK hP 1 3 rfl rfl h86 dX9_addShifted_86 ?_
            refine lv_lload hx hb dX9_addShifted_87 (lv_at hl 0 rfl) ?_
            refine lv_lor hx hb dX9_addShifted_89 ?_
            obtain ⟨h90, hM⟩ := gi_some hM
            refine va_last hx hb hK hP hD hS 1 3 rfl rfl h90 dX9_addShifted_90 (fun H locs hP hD hS => ?_)
            have hP : va_P D vwCl [(h0, .inr (9, [oh0_0, oh0_1, oh0_2, oh0_3, oh0_4, oh0_5, oh0_6, oh0_7, oh0_8, oh0_9, oh0_10, oh0_11, oh0_12, oh0_13, oh0_14, oh0_15, oh0_16, oh0_17, oh0_18, oh0_19, oh0_20, oh0_21, oh0_22, oh0_23, oh0_24, oh0_25, oh0_26, oh0_27, .ref h0_can, oh0_29, oh0_30, oh0_31, oh0_32, oh0_33, oh0_34, oh0_35, oh0_36, oh0_37])), (h0_can, .inl (cy 3, 26978, .inr (.inl (vp_updL v_can_16 (p1 + x6_16).toNatClampNeg ((v_can_16 (p1 + x6_16).toNatClampNeg) ||| (((v_can_16 ((p2 + x6_16) - (p3 / (64 : Int32))).toNatClampNeg) <<< ((p3 - p3 / (64 : Int32) * (64 : Int32)).toInt64 &&& 63)) ||| (((v_can_16 (((p2 + x6_16) - (p3 / (64 : Int32))) - (1 : Int32)).toNatClampNeg).toUInt64 >>> (((64 : Int32) - (p3 - p3 / (64 : Int32) * (64 : Int32))).toInt64.toUInt64 &&& Int64.toUInt64 63)).toInt64)))))))] H := hP
            have hD : va_D A [(h0, .inr (9, [oh0_0, oh0_1, oh0_2, oh0_3, oh0_4, oh0_5, oh0_6, oh0_7, oh0_8, oh0_9, oh0_10, oh0_11, oh0_12, oh0_13, oh0_14, oh0_15, oh0_16, oh0_17, oh0_18, oh0_19, oh0_20, oh0_21, oh0_22, oh0_23, oh0_24, oh0_25, oh0_26, oh0_27, .ref h0_can, oh0_29, oh0_30, oh0_31, oh0_32, oh0_33, oh0_34, oh0_35, oh0_36, oh0_37])), (h0_can, .inl (cy 3, 26978, .inr (.inl (vp_updL v_can_16 (p1 + x6_16).toNatClampNeg ((v_can_16 (p1 + x6_16).toNatClampNeg) ||| (((v_can_16 ((p2 + x6_16) - (p3 / (64 : Int32))).toNatClampNeg) <<< ((p3 - p3 / (64 : Int32) * (64 : Int32)).toInt64 &&& 63)) ||| (((v_can_16 (((p2 + x6_16) - (p3 / (64 : Int32))) - (1 : Int32)).toNatClampNeg).toUInt64 >>> (((64 : Int32) - (p3 - p3 / (64 : Int32) * (64 : Int32))).toInt64.toUInt64 &&& Int64.toUInt64 63)).toInt64)))))))] := hD
            refine lv_iinc (v := x6_16 + (-1 : Int32)) (lv' := [(6, .int (x6_16 + (-1 : Int32))), (7, .long (((v_can_16 ((p2 + x6_16) - (p3 / (64 : Int32))).toNatClampNeg) <<< ((p3 - p3 / (64 : Int32) * (64 : Int32)).toInt64 &&& 63)) ||| (((v_can_16 (((p2 + x6_16) - (p3 / (64 : Int32))) - (1 : Int32)).toNatClampNeg).toUInt64 >>> (((64 : Int32) - (p3 - p3 / (64 : Int32) * (64 : Int32))).toInt64.toUInt64 &&& Int64.toUInt64 63)).toInt64))), (0, .ref h0), (1, .int p1), (2, .int p2), (4, .int (p3 / (64 : Int32))), (5, .int (p3 - p3 / (64 : Int32) * (64 : Int32)))]) hx hb dX9_addShifted_91 hl (k := 6) rfl rfl (by decide) rfl (fun ls hl => ?_)
            refine lv_goto (tgt := 16) hx hb dX9_addShifted_94 (by decide) ?_
            exact ih16 (x6_16 + (-1 : Int32)) (vp_updL v_can_16 (p1 + x6_16).toNatClampNeg ((v_can_16 (p1 + x6_16).toNatClampNeg) ||| (((v_can_16 ((p2 + x6_16) - (p3 / (64 : Int32))).toNatClampNeg) <<< ((p3 - p3 / (64 : Int32) * (64 : Int32)).toInt64 &&& 63)) ||| (((v_can_16 (((p2 + x6_16) - (p3 / (64 : Int32))) - (1 : Int32)).toNatClampNeg).toUInt64 >>> (((64 : Int32) - (p3 - p3 / (64 : Int32) * (64 : Int32))).toInt64.toUInt64 &&& Int64.toUInt64 63)).toInt64)))) v_can_e16 _ _ _ hM hP hD hS (lv_sub hl [2, 3, 4, 5, 6, 0] rfl) K
  obtain ⟨v_can_e16, hL16, hM⟩ := ob1_some hM
  refine L16 N (93 : Int32) v_can v_can_e16 _ _ _ hL16 hP hD hS (lv_sub hl [3, 4, 5, 2, 1, 0] rfl) ?_
  intro H locs ls hP hD hS hl
  obtain rfl := si1 hM
  exact hret _ _ _ _ dX9_addShifted_97 hP hD hS
