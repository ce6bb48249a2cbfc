-- ===== X9_meeting meeting (III)I =====
abbrev r9_meeting : Room := { frames := 2, cells := 0, slots := 0, locals := 44 }
def f9_meeting_J118 (N : Nat) (p1 : Int32) (p2 : Int32) (p3 : Int32) (v_now : Nat → Int32) (s0_118 : Int32) : Option Int32 :=
  if p3 = (0 : Int32) then (some s0_118) else (if p3 = (1 : Int32) then (ob1 (f9_ageAt N p1 s0_118 v_now) fun r142 => some r142) else (ob1 (f9_ageAt N p2 s0_118 v_now) fun r142 => some r142))
def f9_meeting_J80 (N : Nat) (p1 : Int32) (p2 : Int32) (p3 : Int32) (v_now : Nat → Int32) (s0_80 : Int32) : Option Int32 :=
  ob1 (f9_isDown N p2 v_now) fun r84 => if r84 = (0 : Int32) then (f9_meeting_J118 N p1 p2 p3 v_now s0_80) else (gi ((13 : Int32) + p2) 60 (if (v_now ((13 : Int32) + p2).toNatClampNeg) ≤ s0_80 then (f9_meeting_J118 N p1 p2 p3 v_now s0_80) else (gi ((13 : Int32) + p2) 60 (f9_meeting_J118 N p1 p2 p3 v_now (v_now ((13 : Int32) + p2).toNatClampNeg)))))
def f9_meeting (N : Nat) (p1 : Int32) (p2 : Int32) (p3 : Int32) (v_persons : Nat → Int32) (v_now : Nat → Int32) : Option Int32 :=
  ob1 (f9_isPerson N p1 v_persons) fun r2 => if r2 = (0 : Int32) then (some (-1000000001 : Int32)) else (ob1 (f9_isPerson N p2 v_persons) fun r10 => if r10 = (0 : Int32) then (some (-1000000001 : Int32)) else (if p1 = p2 then (some (-1000000001 : Int32)) else (ob1 (f9_in N p3 (0 : Int32) (2 : Int32)) fun r27 => if r27 = (0 : Int32) then (some (-1000000002 : Int32)) else (gi (0 : Int32) 60 (ob1 (f9_isDown N p1 v_now) fun r46 => if r46 = (0 : Int32) then (f9_meeting_J80 N p1 p2 p3 v_now (v_now (0 : Int32).toNatClampNeg)) else (gi ((13 : Int32) + p1) 60 (if (v_now ((13 : Int32) + p1).toNatClampNeg) ≤ (v_now (0 : Int32).toNatClampNeg) then (f9_meeting_J80 N p1 p2 p3 v_now (v_now (0 : Int32).toNatClampNeg)) else (gi ((13 : Int32) + p1) 60 (f9_meeting_J80 N p1 p2 p3 v_now (v_now ((13 : Int32) + p1).toNatClampNeg))))))))))
set_option maxHeartbeats 4000000 in
set_option maxRecDepth 100000 in
theorem c9_meeting (l : Launch) (D : va_G) (cy : Nat → ClassId) (N : Nat) (h0 h0_persons h0_now : Nat) (oh0_0 oh0_1 oh0_2 oh0_3 oh0_4 oh0_5 oh0_6 oh0_7 oh0_9 oh0_10 oh0_11 oh0_12 oh0_13 oh0_14 oh0_15 oh0_16 oh0_17 oh0_18 oh0_19 oh0_20 oh0_21 oh0_23 oh0_24 oh0_25 oh0_26 oh0_27 oh0_28 oh0_29 oh0_30 oh0_31 oh0_32 oh0_33 oh0_34 oh0_35 oh0_36 oh0_37 : Value) (p1 : Int32) (p2 : Int32) (p3 : Int32) (v_persons : Nat → Int32) (v_now : Nat → Int32) (r : Int32) (hM : f9_meeting N p1 p2 p3 v_persons v_now = some r) (sz : Nat) : CTi l yX9_meeting wsX9_meeting r9_meeting [.ref h0, .int p1, .int p2, .int p3] D cy sz [(h0, .inr (9, [oh0_0, oh0_1, oh0_2, oh0_3, oh0_4, oh0_5, oh0_6, oh0_7, .ref h0_persons, oh0_9, oh0_10, oh0_11, oh0_12, oh0_13, oh0_14, oh0_15, oh0_16, oh0_17, oh0_18, oh0_19, oh0_20, oh0_21, .ref h0_now, oh0_23, oh0_24, oh0_25, oh0_26, oh0_27, oh0_28, oh0_29, oh0_30, oh0_31, oh0_32, oh0_33, oh0_34, oh0_35, oh0_36, oh0_37])), (h0_persons, .inl (cy 2, 2, .inl v_persons)), (h0_now, .inl (cy 2, 60, .inl v_now))] [(h0, .inr (9, [oh0_0, oh0_1, oh0_2, oh0_3, oh0_4, oh0_5, oh0_6, oh0_7, .ref h0_persons, oh0_9, oh0_10, oh0_11, oh0_12, oh0_13, oh0_14, oh0_15, oh0_16, oh0_17, oh0_18, oh0_19, oh0_20, oh0_21, .ref h0_now, oh0_23, oh0_24, oh0_25, oh0_26, oh0_27, oh0_28, oh0_29, oh0_30, oh0_31, oh0_32, oh0_33, oh0_34, oh0_35, oh0_36, oh0_37])), (h0_persons, .inl (cy 2, 2, .inl v_persons)), (h0_now, .inl (cy 2, 60, .inl v_now))] r := by
  unfold f9_meeting at hM
  refine ct_oi (cc := cX9_meeting) (maxL := 5) (ty := .int) (by decide +kernel) rfl (Nat.le_of_ble_eq_true rfl) (lv0 := [(0, .ref h0), (1, .int p1), (2, .int p2), (3, .int p3)]) rfl ?_
  intro p e s m args below meth c A Q ls hx hb hts hown hml hK hP hD hS hA hret hl
  have hown : s.vm.findClass RX9 = some m.cls := hown
  have k180 := hts (.constant RX9 180 (-1000000001)) (List.mem_of_getElem? (i := 1) (by decide +kernel))
  have k50 := hts (.fieldLink RX9 50 "CaveYearsModel" "now" "[I") (List.mem_of_getElem? (i := 3) (by decide +kernel))
  have iX9 := (fun w h => (List.mem_cons_of_mem _ (List.mem_append_right _ h)) : ∀ w ∈ wsX90, w ∈ wsX9_meeting)
  have k99 := hts (.constant RX9 99 (-1000000002)) (List.mem_of_getElem? (i := 2) (by decide +kernel))
  refine lv_aload_n hx hb dX9_meeting_0 rfl (lv_at hl 0 rfl) ?_
  refine lv_iload_n hx hb dX9_meeting_1 rfl (lv_at hl 1 rfl) ?_
  obtain ⟨r2, hc2, hM⟩ := ob1_some hM
  refine cl_vi (As := [.int p1]) (rest := []) (ci := 9) (q0 := 0) (wr := [(h0_now, .inl (cy 2, 60, .inl v_now))]) (ws2 := [(h0, .inr (9, [oh0_0, oh0_1, oh0_2, oh0_3, oh0_4, oh0_5, oh0_6, oh0_7, .ref h0_persons, oh0_9, oh0_10, oh0_11, oh0_12, oh0_13, oh0_14, oh0_15, oh0_16, oh0_17, oh0_18, oh0_19, oh0_20, oh0_21, .ref h0_now, oh0_23, oh0_24, oh0_25, oh0_26, oh0_27, oh0_28, oh0_29, oh0_30, oh0_31, oh0_32, oh0_33, oh0_34, oh0_35, oh0_36, oh0_37])), (h0_persons, .inl (cy 2, 2, .inl v_persons)), (h0_now, .inl (cy 2, 60, .inl v_now))]) (isC := [0, 1]) (isR := [2]) (pm := [1, 2, 0]) hx hb hml hown hts (c9_isPerson l D cy N h0 h0_persons oh0_0 oh0_1 oh0_2 oh0_3 oh0_4 oh0_5 oh0_6 oh0_7 oh0_9 oh0_10 oh0_11 oh0_12 oh0_13 oh0_14 oh0_15 oh0_16 oh0_17 oh0_18 oh0_19 oh0_20 oh0_21 (.ref h0_now) oh0_23 oh0_24 oh0_25 oh0_26 oh0_27 oh0_28 oh0_29 oh0_30 oh0_31 oh0_32 oh0_33 oh0_34 oh0_35 oh0_36 oh0_37 p1 v_persons r2 hc2) (cwV 1 hts gX9_meeting_X9_isPerson rfl rfl rfl (by decide +kernel) ⟨Nat.le_of_ble_eq_true rfl, Nat.le_of_ble_eq_true rfl⟩) hK hP hD hS hA rfl rfl rfl rfl rfl (by decide) rfl rfl rfl hl.1 (Nat.le_of_ble_eq_true rfl) dX9_meeting_2 ⟨Nat.zero_le _, Nat.zero_le _⟩ rfl rfl (fun H locs hP hD hS => ?_)
  refine lv_if_eq (tgt := 21) hx hb dX9_meeting_5 (by decide) (fun c5 => ?_) (fun c5 => ?_)
  · have hM := g_pos c5 hM
    refine lv_ldc (v := -1000000001) hx hb hown k180 dX9_meeting_21 ?_
    obtain rfl := si1 hM
    exact hret _ _ _ _ _ dX9_meeting_23 rfl rfl hP hD hS
  · have hM := g_neg c5 hM
    refine lv_aload_n hx hb dX9_meeting_8 rfl (lv_at hl 0 rfl) ?_
    refine lv_iload_n hx hb dX9_meeting_9 rfl (lv_at hl 2 rfl) ?_
    obtain ⟨r10, hc10, hM⟩ := ob1_some hM
    refine cl_vi (As := [.int p2]) (rest := []) (ci := 9) (q0 := 0) (wr := [(h0_now, .inl (cy 2, 60, .inl v_now))]) (ws2 := [(h0, .inr (9, [oh0_0, oh0_1, oh0_2, oh0_3, oh0_4, oh0_5, oh0_6, oh0_7, .ref h0_persons, oh0_9, oh0_10, oh0_11, oh0_12, oh0_13, oh0_14, oh0_15, oh0_16, oh0_17, oh0_18, oh0_19, oh0_20, oh0_21, .ref h0_now, oh0_23, oh0_24, oh0_25, oh0_26, oh0_27, oh0_28, oh0_29, oh0_30, oh0_31, oh0_32, oh0_33, oh0_34, oh0_35, oh0_36, oh0_37])), (h0_persons, .inl (cy 2, 2, .inl v_persons)), (h0_now, .inl (cy 2, 60, .inl v_now))]) (isC := [0, 1]) (isR := [2]) (pm := [1, 2, 0]) hx hb hml hown hts (c9_isPerson l D cy N h0 h0_persons oh0_0 oh0_1 oh0_2 oh0_3 oh0_4 oh0_5 oh0_6 oh0_7 oh0_9 oh0_10 oh0_11 oh0_12 oh0_13 oh0_14 oh0_15 oh0_16 oh0_17 oh0_18 oh0_19 oh0_20 oh0_21 (.ref h0_now) oh0_23 oh0_24 oh0_25 oh0_26 oh0_27 oh0_28 oh0_29 oh0_30 oh0_31 oh0_32 oh0_33 oh0_34 oh0_35 oh0_36 oh0_37 p2 v_persons r10 hc10) (cwV 1 hts gX9_meeting_X9_isPerson rfl rfl rfl (by decide +kernel) ⟨Nat.le_of_ble_eq_true rfl, Nat.le_of_ble_eq_true rfl⟩) hK hP hD hS hA rfl rfl rfl rfl rfl (by decide) rfl rfl rfl hl.1 (Nat.le_of_ble_eq_true rfl) dX9_meeting_10 ⟨Nat.zero_le _, Nat.zero_le _⟩ rfl rfl (fun H locs hP hD hS => ?_)
    refine lv_if_eq (tgt := 21) hx hb dX9_meeting_13 (by decide) (fun c13 => ?_) (fun c13 => ?_)
    · have hM := g_pos c13 hM
      refine lv_ldc (v := -1000000001) hx hb hown k180 dX9_meeting_21 ?_
      obtain rfl := si1 hM
      exact hret _ _ _ _ _ dX9_meeting_23 rfl rfl hP hD hS
    · have hM := g_neg c13 hM
      refine lv_iload_n hx hb dX9_meeting_16 rfl (lv_at hl 1 rfl) ?_
      refine lv_iload_n hx hb dX9_meeting_17 rfl (lv_at hl 2 rfl) ?_
      refine lv_icmp_ne (tgt := 24) hx hb dX9_meeting_18 (by decide) (fun c18 => ?_) (fun c18 => ?_)
      · have hM := g_neg c18 hM
        refine lv_iload_n hx hb dX9_meeting_24 rfl (lv_at hl 3 rfl) ?_
        refine lv_iconst (v := 0) hx hb dX9_meeting_25 (by decide) ?_
        refine lv_iconst (v := 2) hx hb dX9_meeting_26 (by decide) ?_
        obtain ⟨r27, hc27, hM⟩ := ob1_some hM
        refine cl_si (As := [.int p3, .int (0 : Int32), .int (2 : Int32)]) (rest := []) (wr := [(h0, .inr (9, [oh0_0, oh0_1, oh0_2, oh0_3, oh0_4, oh0_5, oh0_6, oh0_7, .ref h0_persons, oh0_9, oh0_10, oh0_11, oh0_12, oh0_13, oh0_14, oh0_15, oh0_16, oh0_17, oh0_18, oh0_19, oh0_20, oh0_21, .ref h0_now, oh0_23, oh0_24, oh0_25, oh0_26, oh0_27, oh0_28, oh0_29, oh0_30, oh0_31, oh0_32, oh0_33, oh0_34, oh0_35, oh0_36, oh0_37])), (h0_persons, .inl (cy 2, 2, .inl v_persons)), (h0_now, .inl (cy 2, 60, .inl v_now))]) (ws2 := [(h0, .inr (9, [oh0_0, oh0_1, oh0_2, oh0_3, oh0_4, oh0_5, oh0_6, oh0_7, .ref h0_persons, oh0_9, oh0_10, oh0_11, oh0_12, oh0_13, oh0_14, oh0_15, oh0_16, oh0_17, oh0_18, oh0_19, oh0_20, oh0_21, .ref h0_now, oh0_23, oh0_24, oh0_25, oh0_26, oh0_27, oh0_28, oh0_29, oh0_30, oh0_31, oh0_32, oh0_33, oh0_34, oh0_35, oh0_36, oh0_37])), (h0_persons, .inl (cy 2, 2, .inl v_persons)), (h0_now, .inl (cy 2, 60, .inl v_now))]) (isC := []) (isR := [0, 1, 2]) (pm := [0, 1, 2]) hx hb hml hown hts (c9_in l D cy N p3 (0 : Int32) (2 : Int32) r27 hc27) (va_cwS 3 hts gX9_meeting_X9_in rfl rfl rfl (by decide +kernel) ⟨Nat.le_of_ble_eq_true rfl, Nat.le_of_ble_eq_true rfl⟩) hK hP hD hS hA rfl rfl rfl (by decide) rfl rfl rfl hl.1 (Nat.le_of_ble_eq_true rfl) dX9_meeting_27 ⟨Nat.zero_le _, Nat.zero_le _⟩ rfl rfl (fun H locs hP hD hS => ?_)
        refine lv_if_ne (tgt := 36) hx hb dX9_meeting_30 (by decide) (fun c30 => ?_) (fun c30 => ?_)
        · have hM := g_neg c30 hM
          refine lv_aload_n hx hb dX9_meeting_36 rfl (lv_at hl 0 rfl) ?_
          refine va_get (D := D) (ci := 9) (v := .ref h0_now) (C := RX9) (T := TX9) (N := 38) hx hb hts iX9 hown hK hP 0 rfl rfl 22 (by decide) k50 (fun _ h9 => h9) rfl dX9_meeting_37 ?_
          refine lv_iconst (v := 0) hx hb dX9_meeting_40 (by decide) ?_
          obtain ⟨h41, hM⟩ := gi_some hM
          refine va_iald hx hb hK hP 2 2 rfl rfl h41 dX9_meeting_41 ?_
          refine lv_istore (lv' := [(4, .int (v_now (0 : Int32).toNatClampNeg)), (0, .ref h0), (1, .int p1), (2, .int p2), (3, .int p3)]) hx hb dX9_meeting_42 hl (by decide) rfl (fun ls hl => ?_)
          refine lv_aload_n hx hb dX9_meeting_44 rfl (lv_at hl 1 rfl) ?_
          refine lv_iload_n hx hb dX9_meeting_45 rfl (lv_at hl 2 rfl) ?_
          obtain ⟨r46, hc46, hM⟩ := ob1_some hM
          refine cl_vi (As := [.int p1]) (rest := []) (ci := 9) (q0 := 0) (wr := [(h0_persons, .inl (cy 2, 2, .inl v_persons))]) (ws2 := [(h0, .inr (9, [oh0_0, oh0_1, oh0_2, oh0_3, oh0_4, oh0_5, oh0_6, oh0_7, .ref h0_persons, oh0_9, oh0_10, oh0_11, oh0_12, oh0_13, oh0_14, oh0_15, oh0_16, oh0_17, oh0_18, oh0_19, oh0_20, oh0_21, .ref h0_now, oh0_23, oh0_24, oh0_25, oh0_26, oh0_27, oh0_28, oh0_29, oh0_30, oh0_31, oh0_32, oh0_33, oh0_34, oh0_35, oh0_36, oh0_37])), (h0_persons, .inl (cy 2, 2, .inl v_persons)), (h0_now, .inl (cy 2, 60, .inl v_now))]) (isC := [0, 2]) (isR := [1]) (pm := [1, 0, 2]) hx hb hml hown hts (c9_isDown l D cy N h0 h0_now oh0_0 oh0_1 oh0_2 oh0_3 oh0_4 oh0_5 oh0_6 oh0_7 (.ref h0_persons) oh0_9 oh0_10 oh0_11 oh0_12 oh0_13 oh0_14 oh0_15 oh0_16 oh0_17 oh0_18 oh0_19 oh0_20 oh0_21 oh0_23 oh0_24 oh0_25 oh0_26 oh0_27 oh0_28 oh0_29 oh0_30 oh0_31 oh0_32 oh0_33 oh0_34 oh0_35 oh0_36 oh0_37 p1 v_now r46 hc46) (cwV 1 hts gX9_meeting_X9_isDown rfl rfl rfl (by decide +kernel) ⟨Nat.le_of_ble_eq_true rfl, Nat.le_of_ble_eq_true rfl⟩) hK hP hD hS hA rfl rfl rfl rfl rfl (by decide) rfl rfl rfl hl.1 (Nat.le_of_ble_eq_true rfl) dX9_meeting_46 ⟨Nat.zero_le _, Nat.zero_le _⟩ rfl rfl (fun H locs hP hD hS => ?_)
          have K80 : ∀ (s0_80 : Int32) (H : Heap) (locs : List Loc) (ls : Array Slot), f9_meeting_J80 N p1 p2 p3 v_now s0_80 = some r → va_P D vwCl [(h0, .inr (9, [oh0_0, oh0_1, oh0_2, oh0_3, oh0_4, oh0_5, oh0_6, oh0_7, .ref h0_persons, oh0_9, oh0_10, oh0_11, oh0_12, oh0_13, oh0_14, oh0_15, oh0_16, oh0_17, oh0_18, oh0_19, oh0_20, oh0_21, .ref h0_now, oh0_23, oh0_24, oh0_25, oh0_26, oh0_27, oh0_28, oh0_29, oh0_30, oh0_31, oh0_32, oh0_33, oh0_34, oh0_35, oh0_36, oh0_37])), (h0_persons, .inl (cy 2, 2, .inl v_persons)), (h0_now, .inl (cy 2, 60, .inl v_now))] H → va_D A [(h0, .inr (9, [oh0_0, oh0_1, oh0_2, oh0_3, oh0_4, oh0_5, oh0_6, oh0_7, .ref h0_persons, oh0_9, oh0_10, oh0_11, oh0_12, oh0_13, oh0_14, oh0_15, oh0_16, oh0_17, oh0_18, oh0_19, oh0_20, oh0_21, .ref h0_now, oh0_23, oh0_24, oh0_25, oh0_26, oh0_27, oh0_28, oh0_29, oh0_30, oh0_31, oh0_32, oh0_33, oh0_34, oh0_35, oh0_36, oh0_37])), (h0_persons, .inl (cy 2, 2, .inl v_persons)), (h0_now, .inl (cy 2, 60, .inl v_now))] → va_S A s.heap H locs → lv_has ls 5 [(0, .ref h0), (1, .int p1), (2, .int p2), (3, .int p3)] → W p l e r9_meeting s m args below meth c H locs 0 0 Q (F0 m 80 ls [.int s0_80]) := by
            intro s0_80 H locs ls hM hP hD hS hl
            unfold f9_meeting_J80 at hM
            refine lv_istore (lv' := [(4, .int s0_80), (0, .ref h0), (1, .int p1), (2, .int p2), (3, .int p3)]) hx hb dX9_meeting_80 hl (by decide) rfl (fun ls hl => ?_)
            refine lv_aload_n hx hb dX9_meeting_82 rfl (lv_at hl 1 rfl) ?_
            refine lv_iload_n hx hb dX9_meeting_83 rfl (lv_at hl 3 rfl) ?_
            obtain ⟨r84, hc84, hM⟩ := ob1_some hM
            refine cl_vi (As := [.int p2]) (rest := []) (ci := 9) (q0 := 0) (wr := [(h0_persons, .inl (cy 2, 2, .inl v_persons))]) (ws2 := [(h0, .inr (9, [oh0_0, oh0_1, oh0_2, oh0_3, oh0_4, oh0_5, oh0_6, oh0_7, .ref h0_persons, oh0_9, oh0_10, oh0_11, oh0_12, oh0_13, oh0_14, oh0_15, oh0_16, oh0_17, oh0_18, oh0_19, oh0_20, oh0_21, .ref h0_now, oh0_23, oh0_24, oh0_25, oh0_26, oh0_27, oh0_28, oh0_29, oh0_30, oh0_31, oh0_32, oh0_33, oh0_34, oh0_35, oh0_36, oh0_37])), (h0_persons, .inl (cy 2, 2, .inl v_persons)), (h0_now, .inl (cy 2, 60, .inl v_now))]) (isC := [0, 2]) (isR := [1]) (pm := [1, 0, 2]) hx hb hml hown hts (c9_isDown l D cy N h0 h0_now oh0_0 oh0_1 oh0_2 oh0_3 oh0_4 oh0_5 oh0_6 oh0_7 (.ref h0_persons) oh0_9 oh0_10 oh0_11 oh0_12 oh0_13 oh0_14 oh0_15 oh0_16 oh0_17 oh0_18 oh0_19 oh0_20 oh0_21 oh0_23 oh0_24 oh0_25 oh0_26 oh0_27 oh0_28 oh0_29 oh0_30 oh0_31 oh0_32 oh0_33 oh0_34 oh0_35 oh0_36 oh0_37 p2 v_now r84 hc84) (cwV 1 hts gX9_meeting_X9_isDown rfl rfl rfl (by decide +kernel) ⟨Nat.le_of_ble_eq_true rfl, Nat.le_of_ble_eq_true rfl⟩) hK hP hD hS hA rfl rfl rfl rfl rfl (by decide) rfl rfl rfl hl.1 (Nat.le_of_ble_eq_true rfl) dX9_meeting_84 ⟨Nat.zero_le _, Nat.zero_le _⟩ rfl rfl (fun H locs hP hD hS => ?_)
            have K118 : ∀ (s0_118 : Int32) (H : Heap) (locs : List Loc) (ls : Array Slot), f9_meeting_J118 N p1 p2 p3 v_now s0_118 = some r → va_P D vwCl [(h0, .inr (9, [oh0_0, oh0_1, oh0_2, oh0_3, oh0_4, oh0_5, oh0_6, oh0_7, .ref h0_persons, oh0_9, oh0_10, oh0_11, oh0_12, oh0_13, oh0_14, oh0_15, oh0_16, oh0_17, oh0_18, oh0_19, oh0_20, oh0_21, .ref h0_now, oh0_23, oh0_24, oh0_25, oh0_26, oh0_27, oh0_28, oh0_29, oh0_30, oh0_31, oh0_32, oh0_33, oh0_34, oh0_35, oh0_36, oh0_37])), (h0_persons, .inl (cy 2, 2, .inl v_persons)), (h0_now, .inl (cy 2, 60, .inl v_now))] H → va_D A [(h0, .inr (9, [oh0_0, oh0_1, oh0_2, oh0_3, oh0_4, oh0_5, oh0_6, oh0_7, .ref h0_persons, oh0_9, oh0_10, oh0_11, oh0_12, oh0_13, oh0_14, oh0_15, oh0_16, oh0_17, oh0_18, oh0_19, oh0_20, oh0_21, .ref h0_now, oh0_23, oh0_24, oh0_25, oh0_26, oh0_27, oh0_28, oh0_29, oh0_30, oh0_31, oh0_32, oh0_33, oh0_34, oh0_35, oh0_36, oh0_37])), (h0_persons, .inl (cy 2, 2, .inl v_persons)), (h0_now, .inl (cy 2, 60, .inl v_now))] → va_S A s.heap H locs → lv_has ls 5 [(0, .ref h0), (1, .int p1), (2, .int p2), (3, .int p3)] → W p l e r9_meeting s m args below meth c H locs 0 0 Q (F0 m 118 ls [.int s0_118]) := by
              intro s0_118 H locs ls hM hP hD hS hl
              unfold f9_meeting_J118 at hM
              refine lv_istore (lv' := [(4, .int s0_118), (0, .ref h0), (1, .int p1), (2, .int p2), (3, .int p3)]) hx hb dX9_meeting_118 hl (by decide) rfl (fun ls hl => ?_)
              refine lv_iload_n hx hb dX9_meeting_120 rfl (lv_at hl 4 rfl) ?_
              refine lv_if_ne (tgt := 129) hx hb dX9_meeting_121 (by decide) (fun c121 => ?_) (fun c121 => ?_)
              · have hM := g_neg c121 hM
                refine lv_aload_n hx hb dX9_meeting_129 rfl (lv_at hl 1 rfl) ?_
                refine lv_iload_n hx hb dX9_meeting_130 rfl (lv_at hl 4 rfl) ?_
                refine lv_iconst (v := 1) hx hb dX9_meeting_131 (by decide) ?_
                refine lv_icmp_ne (tgt := 139) hx hb dX9_meeting_132 (by decide) (fun c132 => ?_) (fun c132 => ?_)
                · have hM := g_neg c132 hM
                  refine lv_iload_n hx hb dX9_meeting_139 rfl (lv_at hl 3 rfl) ?_
                  refine lv_iload hx hb dX9_meeting_140 (lv_at hl 0 rfl) ?_
                  obtain ⟨r142, hc142, hM⟩ := ob1_some hM
                  refine cl_vi (As := [.int p2, .int s0_118]) (rest := []) (ci := 9) (q0 := 0) (wr := [(h0_persons, .inl (cy 2, 2, .inl v_persons))]) (ws2 := [(h0, .inr (9, [oh0_0, oh0_1, oh0_2, oh0_3, oh0_4, oh0_5, oh0_6, oh0_7, .ref h0_persons, oh0_9, oh0_10, oh0_11, oh0_12, oh0_13, oh0_14, oh0_15, oh0_16, oh0_17, oh0_18, oh0_19, oh0_20, oh0_21, .ref h0_now, oh0_23, oh0_24, oh0_25, oh0_26, oh0_27, oh0_28, oh0_29, oh0_30, oh0_31, oh0_32, oh0_33, oh0_34, oh0_35, oh0_36, oh0_37])), (h0_persons, .inl (cy 2, 2, .inl v_persons)), (h0_now, .inl (cy 2, 60, .inl v_now))]) (isC := [0, 2]) (isR := [1]) (pm := [1, 0, 2]) hx hb hml hown hts (c9_ageAt l D cy N h0 h0_now oh0_0 oh0_1 oh0_2 oh0_3 oh0_4 oh0_5 oh0_6 oh0_7 (.ref h0_persons) oh0_9 oh0_10 oh0_11 oh0_12 oh0_13 oh0_14 oh0_15 oh0_16 oh0_17 oh0_18 oh0_19 oh0_20 oh0_21 oh0_23 oh0_24 oh0_25 oh0_26 oh0_27 oh0_28 oh0_29 oh0_30 oh0_31 oh0_32 oh0_33 oh0_34 oh0_35 oh0_36 oh0_37 p2 s0_118 v_now r142 hc142) (cwV 2 hts gX9_meeting_X9_ageAt rfl rfl rfl (by decide +kernel) ⟨Nat.le_of_ble_eq_true rfl, Nat.le_of_ble_eq_true rfl⟩) hK hP hD hS hA rfl rfl rfl rfl rfl (by decide) rfl rfl rfl hl.1 (Nat.le_of_ble_eq_true rfl) dX9_meeting_142 ⟨Nat.zero_le _, Nat.zero_le _⟩ rfl rfl (fun H locs hP hD hS => ?_)
                  obtain rfl := si1 hM
                  exact hret _ _ _ _ _ dX9_meeting_145 rfl rfl hP hD hS
                · have hM := g_pos c132 hM
                  refine lv_iload_n hx hb dX9_meeting_135 rfl (lv_at hl 2 rfl) ?_
                  refine lv_goto (tgt := 140) hx hb dX9_meeting_136 (by decide) ?_
                  refine lv_iload hx hb dX9_meeting_140 (lv_at hl 0 rfl) ?_
                  obtain ⟨r142, hc142, hM⟩ := ob1_some hM
                  refine cl_vi (As := [.int p1, .int s0_118]) (rest := []) (ci := 9) (q0 := 0) (wr := [(h0_persons, .inl (cy 2, 2, .inl v_persons))]) (ws2 := [(h0, .inr (9, [oh0_0, oh0_1, oh0_2, oh0_3, oh0_4, oh0_5, oh0_6, oh0_7, .ref h0_persons, oh0_9, oh0_10, oh0_11, oh0_12, oh0_13, oh0_14, oh0_15, oh0_16, oh0_17, oh0_18, oh0_19, oh0_20, oh0_21, .ref h0_now, oh0_23, oh0_24, oh0_25, oh0_26, oh0_27, oh0_28, oh0_29, oh0_30, oh0_31, oh0_32, oh0_33, oh0_34, oh0_35, oh0_36, oh0_37])), (h0_persons, .inl (cy 2, 2, .inl v_persons)), (h0_now, .inl (cy 2, 60, .inl v_now))]) (isC := [0, 2]) (isR := [1]) (pm := [1, 0, 2]) hx hb hml hown hts (c9_ageAt l D cy N h0 h0_now oh0_0 oh0_1 oh0_2 oh0_3 oh0_4 oh0_5 oh0_6 oh0_7 (.ref h0_persons) oh0_9 oh0_10 oh0_11 oh0_12 oh0_13 oh0_14 oh0_15 oh0_16 oh0_17 oh0_18 oh0_19 oh0_20 oh0_21 oh0_23 oh0_24 oh0_25 oh0_26 oh0_27 oh0_28 oh0_29 oh0_30 oh0_31 oh0_32 oh0_33 oh0_34 oh0_35 oh0_36 oh0_37 p1 s0_118 v_now r142 hc142) (cwV 2 hts gX9_meeting_X9_ageAt rfl rfl rfl (by decide +kernel) ⟨Nat.le_of_ble_eq_true rfl, Nat.le_of_ble_eq_true rfl⟩) hK hP hD hS hA rfl rfl rfl rfl rfl (by decide) rfl rfl rfl hl.1 (Nat.le_of_ble_eq_true rfl) dX9_meeting_142 ⟨Nat.zero_le _, Nat.zero_le _⟩ rfl rfl (fun H locs hP hD hS => ?_)
                  obtain rfl := si1 hM
                  exact hret _ _ _ _ _ dX9_meeting_145 rfl rfl hP hD hS
              · have hM := g_pos c121 hM
                refine lv_iload hx hb dX9_meeting_124 (lv_at hl 0 rfl) ?_
                refine lv_goto (tgt := 145) hx hb dX9_meeting_126 (by decide) ?_
                obtain rfl := si1 hM
                exact hret _ _ _ _ _ dX9_meeting_145 rfl rfl hP hD hS
            refine lv_if_eq (tgt := 116) hx hb dX9_meeting_87 (by decide) (fun c87 => ?_) (fun c87 => ?_)
            · have hM := g_pos c87 hM
              refine lv_iload hx hb dX9_meeting_116 (lv_at hl 0 rfl) ?_
              exact K118 s0_80 _ _ _ hM hP hD hS (lv_sub hl [1, 2, 3, 4] rfl)
            · have hM := g_neg c87 hM
              refine lv_aload_n hx hb dX9_meeting_90 rfl (lv_at hl 1 rfl) ?_
              refine va_get (D := D) (ci := 9) (v := .ref h0_now) (C := RX9) (T := TX9) (N := 38) hx hb hts iX9 hown hK hP 0 rfl rfl 22 (by decide) k50 (fun _ h9 => h9) rfl dX9_meeting_91 ?_
              refine lv_bipush (v := 13) hx hb dX9_meeting_94 (by decide) ?_
              refine lv_iload_n hx hb dX9_meeting_96 rfl (lv_at hl 3 rfl) ?_
              refine lv_iadd hx hb dX9_meeting_97 ?_
              obtain ⟨h98, hM⟩ := gi_some hM
              refine va_iald hx hb hK hP 2 2 rfl rfl h98 dX9_meeting_98 ?_
              refine lv_iload hx hb dX9_meeting_99 (lv_at hl 0 rfl) ?_
              refine lv_icmp_le (tgt := 116) hx hb dX9_meeting_101 (by decide) (fun c101 => ?_) (fun c101 => ?_)
              · have hM := g_pos c101 hM
                refine lv_iload hx hb dX9_meeting_116 (lv_at hl 0 rfl) ?_
                exact K118 s0_80 _ _ _ hM hP hD hS (lv_sub hl [1, 2, 3, 4] rfl)
              · have hM := g_neg c101 hM
                refine lv_aload_n hx hb dX9_meeting_104 rfl (lv_at hl 1 rfl) ?_
                refine va_get (D := D) (ci := 9) (v := .ref h0_now) (C := RX9) (T := TX9) (N := 38) hx hb hts iX9 hown hK hP 0 rfl rfl 22 (by decide) k50 (fun _ h9 => h9) rfl dX9_meeting_105 ?_
                refine lv_bipush (v := 13) hx hb dX9_meeting_108 (by decide) ?_
                refine lv_iload_n hx hb dX9_meeting_110 rfl (lv_at hl 3 rfl) ?_
                refine lv_iadd hx hb dX9_meeting_111 ?_
                obtain ⟨h112, hM⟩ := gi_some hM
                refine va_iald hx hb hK hP 2 2 rfl rfl h112 dX9_meeting_112 ?_
                refine lv_goto (tgt := 118) hx hb dX9_meeting_113 (by decide) ?_
                exact K118 (v_now ((13 : Int32) + p2).toNatClampNeg) _ _ _ hM hP hD hS (lv_sub hl [1, 2, 3, 4] rfl)
          refine lv_if_eq (tgt := 78) hx hb dX9_meeting_49 (by decide) (fun c49 => ?_) (fun c49 => ?_)
          · have hM := g_pos c49 hM
            refine lv_iload hx hb dX9_meeting_78 (lv_at hl 0 rfl) ?_
            exact K80 (v_now (0 : Int32).toNatClampNeg) _ _ _ hM hP hD hS (lv_sub hl [1, 2, 3, 4] rfl)
          · have hM := g_neg c49 hM
            refine lv_aload_n hx hb dX9_meeting_52 rfl (lv_at hl 1 rfl) ?_
            refine va_get (D := D) (ci := 9) (v := .ref h0_now) (C := RX9) (T := TX9) (N := 38) hx hb hts iX9 hown hK hP 0 rfl rfl 22 (by decide) k50 (fun _ h9 => h9) rfl dX9_meeting_53 ?_
            refine lv_bipush (v := 13) hx hb dX9_meeting_56 (by decide) ?_
            refine lv_iload_n hx hb dX9_meeting_58 rfl (lv_at hl 2 rfl) ?_
            refine lv_iadd hx hb dX9_meeting_59 ?_
            obtain ⟨h60, hM⟩ := gi_some hM
            refine va_iald hx hb hK hP 2 2 rfl rfl h60 dX9_meeting_60 ?_
            refine lv_iload hx hb dX9_meeting_61 (lv_at hl 0 rfl) ?_
            refine lv_icmp_le (tgt := 78) hx hb dX9_meeting_63 (by decide) (fun c63 => ?_) (fun c63 => ?_)
            · have hM := g_pos c63 hM
              refine lv_iload hx hb dX9_meeting_78 (lv_at hl 0 rfl) ?_
              exact K80 (v_now (0 : Int32).toNatClampNeg) _ _ _ hM hP hD hS (lv_sub hl [1, 2, 3, 4] rfl)
            · have hM := g_neg c63 hM
              refine lv_aload_n hx hb dX9_meeting_66 rfl (lv_at hl 1 rfl) ?_
              refine va_get (D := D) (ci := 9) (v := .ref h0_now) (C := RX9) (T := TX9) (N := 38) hx hb hts iX9 hown hK hP 0 rfl rfl 22 (by decide) k50 (fun _ h9 => h9) rfl dX9_meeting_67 ?_
              refine lv_bipush (v := 13) hx hb dX9_meeting_70 (by decide) ?_
              refine lv_iload_n hx hb dX9_meeting_72 rfl (lv_at hl 2 rfl) ?_
              refine lv_iadd hx hb dX9_meeting_73 ?_
              obtain ⟨h74, hM⟩ := gi_some hM
              refine va_iald hx hb hK hP 2 2 rfl rfl h74 dX9_meeting_74 ?_
              refine lv_goto (tgt := 80) hx hb dX9_meeting_75 (by decide) ?_
              exact K80 (v_now ((13 : Int32) + p1).toNatClampNeg) _ _ _ hM hP hD hS (lv_sub hl [1, 2, 3, 4] rfl)
        · have hM := g_pos c30 hM
          refine lv_ldc (v := -1000000002) hx hb hown k99 dX9_meeting_33 ?_
          obtain rfl := si1 hM
          exact hret _ _ _ _ _ dX9_meeting_35 rfl rfl hP hD hS
      · have hM := g_pos c18 hM
        refine lv_ldc (v := -1000000001) hx hb hown k180 dX9_meeting_21 ?_
        obtain rfl := si1 hM
        exact hret _ _ _ _ _ dX9_meeting_23 rfl rfl hP hD hS

-- ===== X9_sum sum (II)I =====
abbrev r9_sum : Room := { frames := 2, cells := 0, slots := 0, locals := 43 }
def f9_sum_L50 (N : Nat) (p2 : Int32) (v_interest : Nat → Int32) : Nat → Int32 → Int32 → Option Int32
  | 0, _, _ => none
  | n + 1, x3_50, x4_50 => if (p2 / (60 : Int32)) ≤ x4_50 then (some x3_50) else (ob1 (f9_grown N x3_50 v_interest) fun r61 => (f9_sum_L50 N p2 v_interest n) r61 (x4_50 + (1 : Int32)))
def f9_sum (N : Nat) (p1 : Int32) (p2 : Int32) (v_persons : Nat → Int32) (v_interest : Nat → Int32) (v_now : Nat → Int32) : Option Int32 :=
  ob1 (f9_isPerson N p1 v_persons) fun r2 => if r2 = (0 : Int32) then (some (-1000000001 : Int32)) else (gi (0 : Int32) 60 (ob1 (f9_in N p2 (v_now (0 : Int32).toNatClampNeg) (9999999 : Int32)) fun r20 => if r20 = (0 : Int32) then (some (-1000000002 : Int32)) else (gi ((7 : Int32) + p1) 60 (gi (0 : Int32) 60 (ob1 (f9_sum_L50 N p2 v_interest N (v_now ((7 : Int32) + p1).toNatClampNeg) ((v_now (0 : Int32).toNatClampNeg) / (60 : Int32))) fun e3_50 => some e3_50)))))
set_option maxHeartbeats 4000000 in
set_option maxRecDepth 100000 in
theorem c9_sum (l : Launch) (D : va_G) (cy : Nat → ClassId) (N : Nat) (h0 h0_persons h0_interest h0_now : Nat) (oh0_0 oh0_1 oh0_2 oh0_3 oh0_4 oh0_5 oh0_6 oh0_7 oh0_9 oh0_10 oh0_12 oh0_13 oh0_14 oh0_15 oh0_16 oh0_17 oh0_18 oh0_19 oh0_20 oh0_21 oh0_23 oh0_24 oh0_25 oh0_26 oh0_27 oh0_28 oh0_29 oh0_30 oh0_31 oh0_32 oh0_33 oh0_34 oh0_35 oh0_36 oh0_37 : Value) (p1 : Int32) (p2 : Int32) (v_persons : Nat → Int32) (v_interest : Nat → Int32) (v_now : Nat → Int32) (r : Int32) (hM : f9_sum N p1 p2 v_persons v_interest v_now = some r) (sz : Nat) : CTi l yX9_sum wsX9_sum r9_sum [.ref h0, .int p1, .int p2] D cy sz [(h0, .inr (9, [oh0_0, oh0_1, oh0_2, oh0_3, oh0_4, oh0_5, oh0_6, oh0_7, .ref h0_persons, oh0_9, oh0_10, .ref h0_interest, oh0_12, oh0_13, oh0_14, oh0_15, oh0_16, oh0_17, oh0_18, oh0_19, oh0_20, oh0_21, .ref h0_now, oh0_23, oh0_24, oh0_25, oh0_26, oh0_27, oh0_28, oh0_29, oh0_30, oh0_31, oh0_32, oh0_33, oh0_34, oh0_35, oh0_36, oh0_37])), (h0_persons, .inl (cy 2, 2, .inl v_persons)), (h0_interest, .inl (cy 2, 2, .inl v_interest)), (h0_now, .inl (cy 2, 60, .inl v_now))] [(h0, .inr (9, [oh0_0, oh0_1, oh0_2, oh0_3, oh0_4, oh0_5, oh0_6, oh0_7, .ref h0_persons, oh0_9, oh0_10, .ref h0_interest, oh0_12, oh0_13, oh0_14, oh0_15, oh0_16, oh0_17, oh0_18, oh0_19, oh0_20, oh0_21, .ref h0_now, oh0_23, oh0_24, oh0_25, oh0_26, oh0_27, oh0_28, oh0_29, oh0_30, oh0_31, oh0_32, oh0_33, oh0_34, oh0_35, oh0_36, oh0_37])), (h0_persons, .inl (cy 2, 2, .inl v_persons)), (h0_interest, .inl (cy 2, 2, .inl v_interest)), (h0_now, .inl (cy 2, 60, .inl v_now))] r := by
  unfold f9_sum at hM
  refine ct_oi (cc := cX9_sum) (maxL := 5) (ty := .int) (by decide +kernel) rfl (Nat.le_of_ble_eq_true rfl) (lv0 := [(0, .ref h0), (1, .int p1), (2, .int p2)]) rfl ?_
  intro p e s m args below meth c A Q ls hx hb hts hown hml hK hP hD hS hA hret hl
  have hown : s.vm.findClass RX9 = some m.cls := hown
  have k50 := hts (.fieldLink RX9 50 "CaveYearsModel" "now" "[I") (List.mem_of_getElem? (i := 2) (by decide +kernel))
  have iX9 := (fun w h => (List.mem_cons_of_mem _ (List.mem_append_right _ h)) : ∀ w ∈ wsX90, w ∈ wsX9_sum)
  have k210 := hts (.constant RX9 210 (9999999)) (List.mem_of_getElem? (i := 3) (by decide +kernel))
  have k99 := hts (.constant RX9 99 (-1000000002)) (List.mem_of_getElem? (i := 4) (by decide +kernel))
  have k180 := hts (.constant RX9 180 (-1000000001)) (List.mem_of_getElem? (i := 1) (by decide +kernel))
  refine lv_aload_n hx hb dX9_sum_0 rfl (lv_at hl 0 rfl) ?_
  refine lv_iload_n hx hb dX9_sum_1 rfl (lv_at hl 1 rfl) ?_
  obtain ⟨r2, hc2, hM⟩ := ob1_some hM
  refine cl_vi (As := [.int p1]) (rest := []) (ci := 9) (q0 := 0) (wr := [(h0_interest, .inl (cy 2, 2, .inl v_interest)), (h0_now, .inl (cy 2, 60, .inl v_now))]) (ws2 := [(h0, .inr (9, [oh0_0, oh0_1, oh0_2, oh0_3, oh0_4, oh0_5, oh0_6, oh0_7, .ref h0_persons, oh0_9, oh0_10, .ref h0_interest, oh0_12, oh0_13, oh0_14, oh0_15, oh0_16, oh0_17, oh0_18, oh0_19, oh0_20, oh0_21, .ref h0_now, oh0_23, oh0_24, oh0_25, oh0_26, oh0_27, oh0_28, oh0_29, oh0_30, oh0_31, oh0_32, oh0_33, oh0_34, oh0_35, oh0_36, oh0_37])), (h0_persons, .inl (cy 2, 2, .inl v_persons)), (h0_interest, .inl (cy 2, 2, .inl v_interest)), (h0_now, .inl (cy 2, 60, .inl v_now))]) (isC := [0, 1]) (isR := [2, 3]) (pm := [2, 3, 0, 1]) hx hb hml hown hts (c9_isPerson l D cy N h0 h0_persons oh0_0 oh0_1 oh0_2 oh0_3 oh0_4 oh0_5 oh0_6 oh0_7 oh0_9 oh0_10 (.ref h0_interest) oh0_12 oh0_13 oh0_14 oh0_15 oh0_16 oh0_17 oh0_18 oh0_19 oh0_20 oh0_21 (.ref h0_now) oh0_23 oh0_24 oh0_25 oh0_26 oh0_27 oh0_28 oh0_29 oh0_30 oh0_31 oh0_32 oh0_33 oh0_34 oh0_35 oh0_36 oh0_37 p1 v_persons r2 hc2) (cwV 1 hts gX9_sum_X9_isPerson rfl rfl rfl (by decide +kernel) ⟨Nat.le_of_ble_eq_true rfl, Nat.le_of_ble_eq_true rfl⟩) hK hP hD hS hA rfl rfl rfl rfl rfl (by decide) rfl rfl rfl hl.1 (Nat.le_of_ble_eq_true rfl) dX9_sum_2 ⟨Nat.zero_le _, Nat.zero_le _⟩ rfl rfl (fun H locs hP hD hS => ?_)
  refine lv_if_ne (tgt := 11) hx hb dX9_sum_5 (by decide) (fun c5 => ?_) (fun c5 => ?_)
  · have hM := g_neg c5 hM
    refine lv_iload_n hx hb dX9_sum_11 rfl (lv_at hl 2 rfl) ?_
    refine lv_aload_n hx hb dX9_sum_12 rfl (lv_at hl 0 rfl) ?_
    refine va_get (D := D) (ci := 9) (v := .ref h0_now) (C := RX9) (T := TX9) (N := 38) hx hb hts iX9 hown hK hP 0 rfl rfl 22 (by decide) k50 (fun _ h9 => h9) rfl dX9_sum_13 ?_
    refine lv_iconst (v := 0) hx hb dX9_sum_16 (by decide) ?_
    obtain ⟨h17, hM⟩ := gi_some hM
    refine va_iald hx hb hK hP 3 2 rfl rfl h17 dX9_sum_17 ?_
    refine lv_ldc (v := 9999999) hx hb hown k210 dX9_sum_18 ?_
    obtain ⟨r20, hc20, hM⟩ := ob1_some hM
    refine cl_si (As := [.int p2, .int (v_now (0 : Int32).toNatClampNeg), .int (9999999 : Int32)]) (rest := []) (wr := [(h0, .inr (9, [oh0_0, oh0_1, oh0_2, oh0_3, oh0_4, oh0_5, oh0_6, oh0_7, .ref h0_persons, oh0_9, oh0_10, .ref h0_interest, oh0_12, oh0_13, oh0_14, oh0_15, oh0_16, oh0_17, oh0_18, oh0_19, oh0_20, oh0_21, .ref h0_now, oh0_23, oh0_24, oh0_25, oh0_26, oh0_27, oh0_28, oh0_29, oh0_30, oh0_31, oh0_32, oh0_33, oh0_34, oh0_35, oh0_36, oh0_37])), (h0_persons, .inl (cy 2, 2, .inl v_persons)), (h0_interest, .inl (cy 2, 2, .inl v_interest)), (h0_now, .inl (cy 2, 60, .inl v_now))]) (ws2 := [(h0, .inr (9, [oh0_0, oh0_1, oh0_2, oh0_3, oh0_4, oh0_5, oh0_6, oh0_7, .ref h0_persons, oh0_9, oh0_10, .ref h0_interest, oh0_12, oh0_13, oh0_14, oh0_15, oh0_16, oh0_17, oh0_18, oh0_19, oh0_20, oh0_21, .ref h0_now, oh0_23, oh0_24, oh0_25, oh0_26, oh0_27, oh0_28, oh0_29, oh0_30, oh0_31, oh0_32, oh0_33, oh0_34, oh0_35, oh0_36, oh0_37])), (h0_persons, .inl (cy 2, 2, .inl v_persons)), (h0_interest, .inl (cy 2, 2, .inl v_interest)), (h0_now, .inl (cy 2, 60, .inl v_now))]) (isC := []) (isR := [0, 1, 2, 3]) (pm := [0, 1, 2, 3]) hx hb hml hown hts (c9_in l D cy N p2 (v_now (0 : Int32).toNatClampNeg) (9999999 : Int32) r20 hc20) (va_cwS 3 hts gX9_sum_X9_in rfl rfl rfl (by decide +kernel) ⟨Nat.le_of_ble_eq_true rfl, Nat.le_of_ble_eq_true rfl⟩) hK hP hD hS hA rfl rfl rfl (by decide) rfl rfl rfl hl.1 (Nat.le_of_ble_eq_true rfl) dX9_sum_20 ⟨Nat.zero_le _, Nat.zero_le _⟩ rfl rfl (fun H locs hP hD hS => ?_)
    refine lv_if_ne (tgt := 29) hx hb dX9_sum_23 (by decide) (fun c23 => ?_) (fun c23 => ?_)
    · have hM := g_neg c23 hM
      refine lv_aload_n hx hb dX9_sum_29 rfl (lv_at hl 0 rfl) ?_
      refine va_get (D := D) (ci := 9) (v := .ref h0_now) (C := RX9) (T := TX9) (N := 38) hx hb hts iX9 hown hK hP 0 rfl rfl 22 (by decide) k50 (fun _ h9 => h9) rfl dX9_sum_30 ?_
      refine lv_bipush (v := 7) hx hb dX9_sum_33 (by decide) ?_
      refine lv_iload_n hx hb dX9_sum_35 rfl (lv_at hl 1 rfl) ?_
      refine lv_iadd hx hb dX9_sum_36 ?_
      obtain ⟨h37, hM⟩ := gi_some hM
      refine va_iald hx hb hK hP 3 2 rfl rfl h37 dX9_sum_37 ?_
      refine lv_istore_n (lv' := [(3, .int (v_now ((7 : Int32) + p1).toNatClampNeg)), (0, .ref h0), (1, .int p1), (2, .int p2)]) hx hb dX9_sum_38 rfl hl (by decide) rfl (fun ls hl => ?_)
      refine lv_aload_n hx hb dX9_sum_39 rfl (lv_at hl 1 rfl) ?_
      refine va_get (D := D) (ci := 9) (v := .ref h0_now) (C := RX9) (T := TX9) (N := 38) hx hb hts iX9 hown hK hP 0 rfl rfl 22 (by decide) k50 (fun _ h9 => h9) rfl dX9_sum_40 ?_
      refine lv_iconst (v := 0) hx hb dX9_sum_43 (by decide) ?_
      obtain ⟨h44, hM⟩ := gi_some hM
      refine va_iald hx hb hK hP 3 2 rfl rfl h44 dX9_sum_44 ?_
      refine lv_bipush (v := 60) hx hb dX9_sum_45 (by decide) ?_
      refine lv_idiv hx hb dX9_sum_47 (by decide) ?_
      refine lv_istore (lv' := [(4, .int ((v_now (0 : Int32).toNatClampNeg) / (60 : Int32))), (3, .int (v_now ((7 : Int32) + p1).toNatClampNeg)), (0, .ref h0), (1, .int p1), (2, .int p2)]) hx hb dX9_sum_48 hl (by decide) rfl (fun ls hl => ?_)
      have L50 : ∀ (n : Nat) (x3_50 : Int32) (x4_50 : Int32) (e3_50 : Int32) (H : Heap) (locs : List Loc) (ls : Array Slot), f9_sum_L50 N p2 v_interest n x3_50 x4_50 = some e3_50 → va_P D vwCl [(h0, .inr (9, [oh0_0, oh0_1, oh0_2, oh0_3, oh0_4, oh0_5, oh0_6, oh0_7, .ref h0_persons, oh0_9, oh0_10, .ref h0_interest, oh0_12, oh0_13, oh0_14, oh0_15, oh0_16, oh0_17, oh0_18, oh0_19, oh0_20, oh0_21, .ref h0_now, oh0_23, oh0_24, oh0_25, oh0_26, oh0_27, oh0_28, oh0_29, oh0_30, oh0_31, oh0_32, oh0_33, oh0_34, oh0_35, oh0_36, oh0_37])), (h0_persons, .inl (cy 2, 2, .inl v_persons)), (h0_interest, .inl (cy 2, 2, .inl v_interest)), (h0_now, .inl (cy 2, 60, .inl v_now))] H → va_D A [(h0, .inr (9, [oh0_0, oh0_1, oh0_2, oh0_3, oh0_4, oh0_5, oh0_6, oh0_7, .ref h0_persons, oh0_9, oh0_10, .ref h0_interest, oh0_12, oh0_13, oh0_14, oh0_15, oh0_16, oh0_17, oh0_18, oh0_19, oh0_20, oh0_21, .ref h0_now, oh0_23, oh0_24, oh0_25, oh0_26, oh0_27, oh0_28, oh0_29, oh0_30, oh0_31, oh0_32, oh0_33, oh0_34, oh0_35, oh0_36, oh0_37])), (h0_persons, .inl (cy 2, 2, .inl v_persons)), (h0_interest, .inl (cy 2, 2, .inl v_interest)), (h0_now, .inl (cy 2, 60, .inl v_now))] → va_S A s.heap H locs → lv_has ls 5 [(0, .ref h0), (2, .int p2), (3, .int x3_50), (4, .int x4_50)] → (∀ (H : Heap) (locs : List Loc) (ls : Array Slot), va_P D vwCl [(h0, .inr (9, [oh0_0, oh0_1, oh0_2, oh0_3, oh0_4, oh0_5, oh0_6, oh0_7, .ref h0_persons, oh0_9, oh0_10, .ref h0_interest, oh0_12, oh0_13, oh0_14, oh0_15, oh0_16, oh0_17, oh0_18, oh0_19, oh0_20, oh0_21, .ref h0_now, oh0_23, oh0_24, oh0_25, oh0_26, oh0_27, oh0_28, oh0_29, oh0_30, oh0_31, oh0_32, oh0_33, oh0_34, oh0_35, oh0_36, oh0_37])), (h0_persons, .inl (cy 2, 2, .inl v_persons)), (h0_interest, .inl (cy 2, 2, .inl v_interest)), (h0_now, .inl (cy 2, 60, .inl v_now))] H → va_D A [(h0, .inr (9, [oh0_0, oh0_1, oh0_2, oh0_3, oh0_4, oh0_5, oh0_6, oh0_7, .ref h0_persons, oh0_9, oh0_10, .ref h0_interest, oh0_12, oh0_13, oh0_14, oh0_15, oh0_16, oh0_17, oh0_18, oh0_19, oh0_20, oh0_21, .ref h0_now, oh0_23, oh0_24, oh0_25, oh0_26, oh0_27, oh0_28, oh0_29, oh0_30, oh0_31, oh0_32, oh0_33, oh0_34, oh0_35, oh0_36, oh0_37])), (h0_persons, .inl (cy 2, 2, .inl v_persons)), (h0_interest, .inl (cy 2, 2, .inl v_interest)), (h0_now, .inl (cy 2, 60, .inl v_now))] → va_S A s.heap H locs → lv_has ls 5 [(3, .int e3_50)] → W p l e r9_sum s m args below meth c H locs 0 0 Q (F0 m 71 ls [])) → W p l e r9_sum s m args below meth c H locs 0 0 Q (F0 m 50 ls []) := by
        intro n50
        induction n50 with
        | zero =>
          intro x3_50 x4_50 e3_50 H locs ls hM
          exact absurd hM (by simp [f9_sum_L50])
        | succ n50 ih50 =>
          intro x3_50 x4_50 e3_50 H locs ls hM hP hD hS hl K
          rw [f9_sum_L50] at hM
          refine lv_iload hx hb dX9_sum_50 (lv_at hl 3 rfl) ?_
          refine lv_iload_n hx hb dX9_sum_52 rfl (lv_at hl 1 rfl) ?_
          refine lv_bipush (v := 60) hx hb dX9_sum_53 (by decide) ?_
          refine lv_idiv hx hb dX9_sum_55 (by decide) ?_
          refine lv_icmp_ge (tgt := 71) hx hb dX9_sum_56 (by decide) (fun c56 => ?_) (fun c56 => ?_)
          · have hM := g_pos c56 hM
            obtain rfl := si1 hM
            exact K _ _ _ hP hD hS (lv_sub hl [2] rfl)
          · have hM := g_neg c56 hM
            refine lv_aload_n hx hb dX9_sum_59 rfl (lv_at hl 0 rfl) ?_
            refine lv_iload_n hx hb dX9_sum_60 rfl (lv_at hl 2 rfl) ?_
            obtain ⟨r61, hc61, hM⟩ := ob1_some hM
            refine cl_vi (As := [.int x3_50]) (rest := []) (ci := 9) (q0 := 0) (wr := [(h0_persons, .inl (cy 2, 2, .inl v_persons)), (h0_now, .inl (cy 2, 60, .inl v_now))]) (ws2 := [(h0, .inr (9, [oh0_0, oh0_1, oh0_2, oh0_3, oh0_4, oh0_5, oh0_6, oh0_7, .ref h0_persons, oh0_9, oh0_10, .ref h0_interest, oh0_12, oh0_13, oh0_14, oh0_15, oh0_16, oh0_17, oh0_18, oh0_19, oh0_20, oh0_21, .ref h0_now, oh0_23, oh0_24, oh0_25, oh0_26, oh0_27, oh0_28, oh0_29, oh0_30, oh0_31, oh0_32, oh0_33, oh0_34, oh0_35, oh0_36, oh0_37])), (h0_persons, .inl (cy 2, 2, .inl v_persons)), (h0_interest, .inl (cy 2, 2, .inl v_interest)), (h0_now, .inl (cy 2, 60, .inl v_now))]) (isC := [0, 2]) (isR := [1, 3]) (pm := [2, 0, 3, 1]) hx hb hml hown hts (c9_grown l D cy N h0 h0_interest oh0_0 oh0_1 oh0_2 oh0_3 oh0_4 oh0_5 oh0_6 oh0_7 (.ref h0_persons) oh0_9 oh0_10 oh0_12 oh0_13 oh0_14 oh0_15 oh0_16 oh0_17 oh0_18 oh0_19 oh0_20 oh0_21 (.ref h0_now) oh0_23 oh0_24 oh0_25 oh0_26 oh0_27 oh0_28 oh0_29 oh0_30 oh0_31 oh0_32 oh0_33 oh0_34 oh0_35 oh0_36 oh0_37 x3_50 v_interest r61 hc61) (cwV 1 hts gX9_sum_X9_grown rfl rfl rfl (by decide +kernel) ⟨Nat.le_of_ble_eq_true rfl, Nat.le_of_ble_eq_true rfl⟩) hK hP hD hS hA rfl rfl rfl rfl rfl (by decide) rfl rfl rfl hl.1 (Nat.le_of_ble_eq_true rfl) dX9_sum_61 ⟨Nat.zero_le _, Nat.zero_le _⟩ rfl rfl (fun H locs hP hD hS => ?_)
            refine lv_istore_n (lv' := [(3, .int r61), (0, .ref h0), (2, .int p2), (4, .int x4_50)]) hx hb dX9_sum_64 rfl hl (by decide) rfl (fun ls hl => ?_)
            refine lv_iinc (v := x4_50 + (1 : Int32)) (lv' := [(4, .int (x4_50 + (1 : Int32))), (3, .int r61), (0, .ref h0), (2, .int p2)]) hx hb dX9_sum_65 hl (k := 3) rfl rfl (by decide) rfl (fun ls hl => ?_)
            refine lv_goto (tgt := 50) hx hb dX9_sum_68 (by decide) ?_
            exact ih50 r61 (x4_50 + (1 : Int32)) e3_50 _ _ _ hM hP hD hS (lv_sub hl [2, 3, 1, 0] rfl) K
      obtain ⟨e3_50, hL50, hM⟩ := ob1_some hM
      refine L50 N (v_now ((7 : Int32) + p1).toNatClampNeg) ((v_now (0 : Int32).toNatClampNeg) / (60 : Int32)) e3_50 _ _ _ hL50 hP hD hS (lv_sub hl [2, 4, 1, 0] rfl) ?_
      intro H locs ls hP hD hS hl
      refine lv_iload_n hx hb dX9_sum_71 rfl (lv_at hl 0 rfl) ?_
      obtain rfl := si1 hM
      exact hret _ _ _ _ _ dX9_sum_72 rfl rfl hP hD hS
    · have hM := g_pos c23 hM
      refine lv_ldc (v := -1000000002) hx hb hown k99 dX9_sum_26 ?_
      obtain rfl := si1 hM
      exact hret _ _ _ _ _ dX9_sum_28 rfl rfl hP hD hS
  · have hM := g_pos c5 hM
    refine lv_ldc (v := -1000000001) hx hb hown k180 dX9_sum_8 ?_
    obtain rfl := si1 hM
    exact hret _ _ _ _ _ dX9_sum_10 rfl rfl hP hD hS
