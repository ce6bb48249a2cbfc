-- ===== X0_hasPart hasPart (I)Z =====
abbrev r0_hasPart : Room := { frames := 0, cells := 0, slots := 0, locals := 0 }
def f0_hasPart (N : Nat) (p1 : Int32) (v_parts : Int32) : Option Int32 :=
  if p1 < (0 : Int32) then (some (0 : Int32)) else (if v_parts ≤ p1 then (some (0 : Int32)) else (if (7 : Int32) ≤ p1 then (some (0 : Int32)) else (some (1 : Int32))))
set_option maxHeartbeats 4000000 in
set_option maxRecDepth 100000 in
theorem c0_hasPart (l : Launch) (D : va_G) (cy : Nat → ClassId) (N : Nat) (h0 : Nat) (oh0_1 oh0_2 oh0_3 oh0_4 oh0_5 oh0_6 oh0_7 oh0_8 oh0_9 oh0_10 oh0_11 oh0_12 : Value) (p1 : Int32) (v_parts : Int32) (r : Int32) (hM : f0_hasPart N p1 v_parts = some r) (sz : Nat) : CTi l yX0_hasPart wsX0_hasPart r0_hasPart [.ref h0, .int p1] D cy sz [(h0, .inr (0, [.int v_parts, oh0_1, oh0_2, oh0_3, oh0_4, oh0_5, oh0_6, oh0_7, oh0_8, oh0_9, oh0_10, oh0_11, oh0_12]))] [(h0, .inr (0, [.int v_parts, oh0_1, oh0_2, oh0_3, oh0_4, oh0_5, oh0_6, oh0_7, oh0_8, oh0_9, oh0_10, oh0_11, oh0_12]))] r := by
  unfold f0_hasPart at hM
  refine ct_oi (cc := cX0_hasPart) (maxL := 2) (ty := .boolean) (by decide +kernel) rfl (Nat.le_of_ble_eq_true rfl) (lv0 := [(0, .ref h0), (1, .int p1)]) rfl ?_
  intro p e s m args below meth c A Q ls hx hb hts hown hml hK hP hD hS hA hret hl
  have hown : s.vm.findClass RX0 = some m.cls := hown
  have k30 := hts (.fieldLink RX0 30 "CaveYears$Cave" "parts" "I") (by decide +kernel)
  have iX0 := (by decide +kernel : ∀ w ∈ wsX00, w ∈ wsX0_hasPart)
  refine lv_iload_n hx hb dX0_hasPart_0 rfl (lv_at hl 1 rfl) ?_
  refine lv_if_lt (tgt := 22) hx hb dX0_hasPart_1 (by decide) (fun c1 => ?_) (fun c1 => ?_)
  · have hM := g_pos c1 hM
    refine lv_iconst (v := 0) hx hb dX0_hasPart_22 (by decide) ?_
    obtain rfl := si1 hM
    exact hret _ _ _ _ _ dX0_hasPart_23 rfl rfl hP hD hS
  · have hM := g_neg c1 hM
    refine lv_iload_n hx hb dX0_hasPart_4 rfl (lv_at hl 1 rfl) ?_
    refine lv_aload_n hx hb dX0_hasPart_5 rfl (lv_at hl 0 rfl) ?_
    refine va_get (D := D) (ci := 0) (v := .int v_parts) (C := RX0) (T := TX0) (N := 13) hx hb hts iX0 hown hK hP 0 rfl rfl 0 (by decide) k30 (fun _ h9 => h9) rfl dX0_hasPart_6 ?_
    refine lv_icmp_ge (tgt := 22) hx hb dX0_hasPart_9 (by decide) (fun c9 => ?_) (fun c9 => ?_)
    · have hM := g_pos c9 hM
      refine lv_iconst (v := 0) hx hb dX0_hasPart_22 (by decide) ?_
      obtain rfl := si1 hM
      exact hret _ _ _ _ _ dX0_hasPart_23 rfl rfl hP hD hS
    · have hM := g_neg c9 hM
      refine lv_iload_n hx hb dX0_hasPart_12 rfl (lv_at hl 1 rfl) ?_
      refine lv_bipush (v := 7) hx hb dX0_hasPart_13 (by decide) ?_
      refine lv_icmp_ge (tgt := 22) hx hb dX0_hasPart_15 (by decide) (fun c15 => ?_) (fun c15 => ?_)
      · have hM := g_pos c15 hM
        refine lv_iconst (v := 0) hx hb dX0_hasPart_22 (by decide) ?_
        obtain rfl := si1 hM
        exact hret _ _ _ _ _ dX0_hasPart_23 rfl rfl hP hD hS
      · have hM := g_neg c15 hM
        refine lv_iconst (v := 1) hx hb dX0_hasPart_18 (by decide) ?_
        refine lv_goto (tgt := 23) hx hb dX0_hasPart_19 (by decide) ?_
        obtain rfl := si1 hM
        exact hret _ _ _ _ _ dX0_hasPart_23 rfl rfl hP hD hS

-- ===== X0_hasMouth hasMouth (I)Z =====
abbrev r0_hasMouth : Room := { frames := 1, cells := 0, slots := 0, locals := 21 }
def f0_hasMouth (N : Nat) (p1 : Int32) (v_parts : Int32) (v_mouths : Int32) : Option Int32 :=
  ob1 (f0_hasPart N p1 v_parts) fun r2 => if r2 = (0 : Int32) then (some (0 : Int32)) else (if ((v_mouths >>> (p1 &&& 31)) &&& (1 : Int32)) = (1 : Int32) then (some (1 : Int32)) else (some (0 : Int32)))
set_option maxHeartbeats 4000000 in
set_option maxRecDepth 100000 in
theorem c0_hasMouth (l : Launch) (D : va_G) (cy : Nat → ClassId) (N : Nat) (h0 : Nat) (oh0_2 oh0_3 oh0_4 oh0_5 oh0_6 oh0_7 oh0_8 oh0_9 oh0_10 oh0_11 oh0_12 : Value) (p1 : Int32) (v_parts : Int32) (v_mouths : Int32) (r : Int32) (hM : f0_hasMouth N p1 v_parts v_mouths = some r) (sz : Nat) : CTi l yX0_hasMouth wsX0_hasMouth r0_hasMouth [.ref h0, .int p1] D cy sz [(h0, .inr (0, [.int v_parts, .int v_mouths, oh0_2, oh0_3, oh0_4, oh0_5, oh0_6, oh0_7, oh0_8, oh0_9, oh0_10, oh0_11, oh0_12]))] [(h0, .inr (0, [.int v_parts, .int v_mouths, oh0_2, oh0_3, oh0_4, oh0_5, oh0_6, oh0_7, oh0_8, oh0_9, oh0_10, oh0_11, oh0_12]))] r := by
  unfold f0_hasMouth at hM
  refine ct_oi (cc := cX0_hasMouth) (maxL := 2) (ty := .boolean) (by decide +kernel) rfl (Nat.le_of_ble_eq_true rfl) (lv0 := [(0, .ref h0), (1, .int p1)]) rfl ?_
  intro p e s m args below meth c A Q ls hx hb hts hown hml hK hP hD hS hA hret hl
  have hown : s.vm.findClass RX0 = some m.cls := hown
  have k34 := hts (.fieldLink RX0 34 "CaveYears$Cave" "mouths" "I") (by decide +kernel)
  have iX0 := (by decide +kernel : ∀ w ∈ wsX00, w ∈ wsX0_hasMouth)
  refine lv_aload_n hx hb dX0_hasMouth_0 rfl (lv_at hl 0 rfl) ?_
  refine lv_iload_n hx hb dX0_hasMouth_1 rfl (lv_at hl 1 rfl) ?_
  obtain ⟨r2, hc2, hM⟩ := ob1_some hM
  refine cl_vi (As := [.int p1]) (rest := []) (ci := 0) (q0 := 0) (wr := []) (ws2 := [(h0, .inr (0, [.int v_parts, .int v_mouths, oh0_2, oh0_3, oh0_4, oh0_5, oh0_6, oh0_7, oh0_8, oh0_9, oh0_10, oh0_11, oh0_12]))]) (isC := [0]) (isR := []) (pm := [0]) hx hb hml hown hts (c0_hasPart l D cy N h0 (.int v_mouths) oh0_2 oh0_3 oh0_4 oh0_5 oh0_6 oh0_7 oh0_8 oh0_9 oh0_10 oh0_11 oh0_12 p1 v_parts r2 hc2) (cwV 1 hts gX0_hasMouth_X0_hasPart rfl rfl rfl (by decide +kernel) ⟨Nat.le_of_ble_eq_true rfl, Nat.le_of_ble_eq_true rfl⟩) hK hP hD hS hA rfl rfl rfl rfl rfl (by decide) rfl rfl rfl hl.1 (Nat.le_of_ble_eq_true rfl) dX0_hasMouth_2 ⟨Nat.zero_le _, Nat.zero_le _⟩ rfl rfl (fun H locs hP hD hS => ?_)
  refine lv_if_eq (tgt := 24) hx hb dX0_hasMouth_5 (by decide) (fun c5 => ?_) (fun c5 => ?_)
  · have hM := g_pos c5 hM
    refine lv_iconst (v := 0) hx hb dX0_hasMouth_24 (by decide) ?_
    obtain rfl := si1 hM
    exact hret _ _ _ _ _ dX0_hasMouth_25 rfl rfl hP hD hS
  · have hM := g_neg c5 hM
    refine lv_aload_n hx hb dX0_hasMouth_8 rfl (lv_at hl 0 rfl) ?_
    refine va_get (D := D) (ci := 0) (v := .int v_mouths) (C := RX0) (T := TX0) (N := 13) hx hb hts iX0 hown hK hP 0 rfl rfl 1 (by decide) k34 (fun _ h9 => h9) rfl dX0_hasMouth_9 ?_
    refine lv_iload_n hx hb dX0_hasMouth_12 rfl (lv_at hl 1 rfl) ?_
    refine lv_ishr hx hb dX0_hasMouth_13 ?_
    refine lv_iconst (v := 1) hx hb dX0_hasMouth_14 (by decide) ?_
    refine lv_iand hx hb dX0_hasMouth_15 ?_
    refine lv_iconst (v := 1) hx hb dX0_hasMouth_16 (by decide) ?_
    refine lv_icmp_ne (tgt := 24) hx hb dX0_hasMouth_17 (by decide) (fun c17 => ?_) (fun c17 => ?_)
    · have hM := g_neg c17 hM
      refine lv_iconst (v := 0) hx hb dX0_hasMouth_24 (by decide) ?_
      obtain rfl := si1 hM
      exact hret _ _ _ _ _ dX0_hasMouth_25 rfl rfl hP hD hS
    · have hM := g_pos c17 hM
      refine lv_iconst (v := 1) hx hb dX0_hasMouth_20 (by decide) ?_
      refine lv_goto (tgt := 25) hx hb dX0_hasMouth_21 (by decide) ?_
      obtain rfl := si1 hM
      exact hret _ _ _ _ _ dX0_hasMouth_25 rfl rfl hP hD hS

-- ===== X0_hasWay hasWay (II)Z =====
abbrev r0_hasWay : Room := { frames := 1, cells := 0, slots := 0, locals := 21 }
def f0_hasWay (N : Nat) (p1 : Int32) (p2 : Int32) (v_parts : Int32) (v_near : Nat → Int32) : Option Int32 :=
  ob1 (f0_hasPart N p1 v_parts) fun r2 => if r2 = (0 : Int32) then (some (0 : Int32)) else (ob1 (f0_hasPart N p2 v_parts) fun r10 => if r10 = (0 : Int32) then (some (0 : Int32)) else (gi p1 7 (if (((v_near p1.toNatClampNeg) >>> (p2 &&& 31)) &&& (1 : Int32)) = (1 : Int32) then (some (1 : Int32)) else (some (0 : Int32)))))
set_option maxHeartbeats 4000000 in
set_option maxRecDepth 100000 in
theorem c0_hasWay (l : Launch) (D : va_G) (cy : Nat → ClassId) (N : Nat) (h0 h0_near : Nat) (oh0_1 oh0_2 oh0_3 oh0_4 oh0_5 oh0_6 oh0_7 oh0_9 oh0_10 oh0_11 oh0_12 : Value) (p1 : Int32) (p2 : Int32) (v_parts : Int32) (v_near : Nat → Int32) (r : Int32) (hM : f0_hasWay N p1 p2 v_parts v_near = some r) (sz : Nat) : CTi l yX0_hasWay wsX0_hasWay r0_hasWay [.ref h0, .int p1, .int p2] D cy sz [(h0, .inr (0, [.int v_parts, oh0_1, oh0_2, oh0_3, oh0_4, oh0_5, oh0_6, oh0_7, .ref h0_near, oh0_9, oh0_10, oh0_11, oh0_12])), (h0_near, .inl (cy 2, 7, .inl v_near))] [(h0, .inr (0, [.int v_parts, oh0_1, oh0_2, oh0_3, oh0_4, oh0_5, oh0_6, oh0_7, .ref h0_near, oh0_9, oh0_10, oh0_11, oh0_12])), (h0_near, .inl (cy 2, 7, .inl v_near))] r := by
  unfold f0_hasWay at hM
  refine ct_oi (cc := cX0_hasWay) (maxL := 3) (ty := .boolean) (by decide +kernel) rfl (Nat.le_of_ble_eq_true rfl) (lv0 := [(0, .ref h0), (1, .int p1), (2, .int p2)]) rfl ?_
  intro p e s m args below meth c A Q ls hx hb hts hown hml hK hP hD hS hA hret hl
  have hown : s.vm.findClass RX0 = some m.cls := hown
  have k15 := hts (.fieldLink RX0 15 "CaveYears$Cave" "near" "[I") (by decide +kernel)
  have iX0 := (by decide +kernel : ∀ w ∈ wsX00, w ∈ wsX0_hasWay)
  refine lv_aload_n hx hb dX0_hasWay_0 rfl (lv_at hl 0 rfl) ?_
  refine lv_iload_n hx hb dX0_hasWay_1 rfl (lv_at hl 1 rfl) ?_
  obtain ⟨r2, hc2, hM⟩ := ob1_some hM
  refine cl_vi (As := [.int p1]) (rest := []) (ci := 0) (q0 := 0) (wr := [(h0_near, .inl (cy 2, 7, .inl v_near))]) (ws2 := [(h0, .inr (0, [.int v_parts, oh0_1, oh0_2, oh0_3, oh0_4, oh0_5, oh0_6, oh0_7, .ref h0_near, oh0_9, oh0_10, oh0_11, oh0_12])), (h0_near, .inl (cy 2, 7, .inl v_near))]) (isC := [0]) (isR := [1]) (pm := [1, 0]) hx hb hml hown hts (c0_hasPart l D cy N h0 oh0_1 oh0_2 oh0_3 oh0_4 oh0_5 oh0_6 oh0_7 (.ref h0_near) oh0_9 oh0_10 oh0_11 oh0_12 p1 v_parts r2 hc2) (cwV 1 hts gX0_hasWay_X0_hasPart rfl rfl rfl (by decide +kernel) ⟨Nat.le_of_ble_eq_true rfl, Nat.le_of_ble_eq_true rfl⟩) hK hP hD hS hA rfl rfl rfl rfl rfl (by decide) rfl rfl rfl hl.1 (Nat.le_of_ble_eq_true rfl) dX0_hasWay_2 ⟨Nat.zero_le _, Nat.zero_le _⟩ rfl rfl (fun H locs hP hD hS => ?_)
  refine lv_if_eq (tgt := 34) hx hb dX0_hasWay_5 (by decide) (fun c5 => ?_) (fun c5 => ?_)
  · have hM := g_pos c5 hM
    refine lv_iconst (v := 0) hx hb dX0_hasWay_34 (by decide) ?_
    obtain rfl := si1 hM
    exact hret _ _ _ _ _ dX0_hasWay_35 rfl rfl hP hD hS
  · have hM := g_neg c5 hM
    refine lv_aload_n hx hb dX0_hasWay_8 rfl (lv_at hl 0 rfl) ?_
    refine lv_iload_n hx hb dX0_hasWay_9 rfl (lv_at hl 2 rfl) ?_
    obtain ⟨r10, hc10, hM⟩ := ob1_some hM
    refine cl_vi (As := [.int p2]) (rest := []) (ci := 0) (q0 := 0) (wr := [(h0_near, .inl (cy 2, 7, .inl v_near))]) (ws2 := [(h0, .inr (0, [.int v_parts, oh0_1, oh0_2, oh0_3, oh0_4, oh0_5, oh0_6, oh0_7, .ref h0_near, oh0_9, oh0_10, oh0_11, oh0_12])), (h0_near, .inl (cy 2, 7, .inl v_near))]) (isC := [0]) (isR := [1]) (pm := [1, 0]) hx hb hml hown hts (c0_hasPart l D cy N h0 oh0_1 oh0_2 oh0_3 oh0_4 oh0_5 oh0_6 oh0_7 (.ref h0_near) oh0_9 oh0_10 oh0_11 oh0_12 p2 v_parts r10 hc10) (cwV 1 hts gX0_hasWay_X0_hasPart rfl rfl rfl (by decide +kernel) ⟨Nat.le_of_ble_eq_true rfl, Nat.le_of_ble_eq_true rfl⟩) hK hP hD hS hA rfl rfl rfl rfl rfl (by decide) rfl rfl rfl hl.1 (Nat.le_of_ble_eq_true rfl) dX0_hasWay_10 ⟨Nat.zero_le _, Nat.zero_le _⟩ rfl rfl (fun H locs hP hD hS => ?_)
    refine lv_if_eq (tgt := 34) hx hb dX0_hasWay_13 (by decide) (fun c13 => ?_) (fun c13 => ?_)
    · have hM := g_pos c13 hM
      refine lv_iconst (v := 0) hx hb dX0_hasWay_34 (by decide) ?_
      obtain rfl := si1 hM
      exact hret _ _ _ _ _ dX0_hasWay_35 rfl rfl hP hD hS
    · have hM := g_neg c13 hM
      refine lv_aload_n hx hb dX0_hasWay_16 rfl (lv_at hl 0 rfl) ?_
      refine va_get (D := D) (ci := 0) (v := .ref h0_near) (C := RX0) (T := TX0) (N := 13) hx hb hts iX0 hown hK hP 0 rfl rfl 8 (by decide) k15 (fun _ h9 => h9) rfl dX0_hasWay_17 ?_
      refine lv_iload_n hx hb dX0_hasWay_20 rfl (lv_at hl 1 rfl) ?_
      obtain ⟨h21, hM⟩ := gi_some hM
      refine va_iald hx hb hK hP 1 2 rfl rfl h21 dX0_hasWay_21 ?_
      refine lv_iload_n hx hb dX0_hasWay_22 rfl (lv_at hl 2 rfl) ?_
      refine lv_ishr hx hb dX0_hasWay_23 ?_
      refine lv_iconst (v := 1) hx hb dX0_hasWay_24 (by decide) ?_
      refine lv_iand hx hb dX0_hasWay_25 ?_
      refine lv_iconst (v := 1) hx hb dX0_hasWay_26 (by decide) ?_
      refine lv_icmp_ne (tgt := 34) hx hb dX0_hasWay_27 (by decide) (fun c27 => ?_) (fun c27 => ?_)
      · have hM := g_neg c27 hM
        refine lv_iconst (v := 0) hx hb dX0_hasWay_34 (by decide) ?_
        obtain rfl := si1 hM
        exact hret _ _ _ _ _ dX0_hasWay_35 rfl rfl hP hD hS
      · have hM := g_pos c27 hM
        refine lv_iconst (v := 1) hx hb dX0_hasWay_30 (by decide) ?_
        refine lv_goto (tgt := 35) hx hb dX0_hasWay_31 (by decide) ?_
        obtain rfl := si1 hM
        exact hret _ _ _ _ _ dX0_hasWay_35 rfl rfl hP hD hS

-- ===== X0_mayFollow mayFollow (II)Z =====
abbrev r0_mayFollow : Room := { frames := 2, cells := 0, slots := 0, locals := 43 }
def f0_mayFollow (N : Nat) (p1 : Int32) (p2 : Int32) (v_parts : Int32) (v_near : Nat → Int32) : Option Int32 :=
  ob1 (f0_hasPart N p1 v_parts) fun r2 => if r2 = (0 : Int32) then (ob1 (f0_hasWay N p1 p2 v_parts v_near) fun r16 => if r16 = (0 : Int32) then (some (0 : Int32)) else (some (1 : Int32))) else (if p1 = p2 then (some (1 : Int32)) else (ob1 (f0_hasWay N p1 p2 v_parts v_near) fun r16 => if r16 = (0 : Int32) then (some (0 : Int32)) else (some (1 : Int32))))
set_option maxHeartbeats 4000000 in
set_option maxRecDepth 100000 in
theorem c0_mayFollow (l : Launch) (D : va_G) (cy : Nat → ClassId) (N : Nat) (h0 h0_near : Nat) (oh0_1 oh0_2 oh0_3 oh0_4 oh0_5 oh0_6 oh0_7 oh0_9 oh0_10 oh0_11 oh0_12 : Value) (p1 : Int32) (p2 : Int32) (v_parts : Int32) (v_near : Nat → Int32) (r : Int32) (hM : f0_mayFollow N p1 p2 v_parts v_near = some r) (sz : Nat) : CTi l yX0_mayFollow wsX0_mayFollow r0_mayFollow [.ref h0, .int p1, .int p2] D cy sz [(h0, .inr (0, [.int v_parts, oh0_1, oh0_2, oh0_3, oh0_4, oh0_5, oh0_6, oh0_7, .ref h0_near, oh0_9, oh0_10, oh0_11, oh0_12])), (h0_near, .inl (cy 2, 7, .inl v_near))] [(h0, .inr (0, [.int v_parts, oh0_1, oh0_2, oh0_3, oh0_4, oh0_5, oh0_6, oh0_7, .ref h0_near, oh0_9, oh0_10, oh0_11, oh0_12])), (h0_near, .inl (cy 2, 7, .inl v_near))] r := by
  unfold f0_mayFollow at hM
  refine ct_oi (cc := cX0_mayFollow) (maxL := 3) (ty := .boolean) (by decide +kernel) rfl (Nat.le_of_ble_eq_true rfl) (lv0 := [(0, .ref h0), (1, .int p1), (2, .int p2)]) rfl ?_
  intro p e s m args below meth c A Q ls hx hb hts hown hml hK hP hD hS hA hret hl
  have hown : s.vm.findClass RX0 = some m.cls := hown
  refine lv_aload_n hx hb dX0_mayFollow_0 rfl (lv_at hl 0 rfl) ?_
  refine lv_iload_n hx hb dX0_mayFollow_1 rfl (lv_at hl 1 rfl) ?_
  obtain ⟨r2, hc2, hM⟩ := ob1_some hM
  refine cl_vi (As := [.int p1]) (rest := []) (ci := 0) (q0 := 0) (wr := [(h0_near, .inl (cy 2, 7, .inl v_near))]) (ws2 := [(h0, .inr (0, [.int v_parts, oh0_1, oh0_2, oh0_3, oh0_4, oh0_5, oh0_6, oh0_7, .ref h0_near, oh0_9, oh0_10, oh0_11, oh0_12])), (h0_near, .inl (cy 2, 7, .inl v_near))]) (isC := [0]) (isR := [1]) (pm := [1, 0]) hx hb hml hown hts (c0_hasPart l D cy N h0 oh0_1 oh0_2 oh0_3 oh0_4 oh0_5 oh0_6 oh0_7 (.ref h0_near) oh0_9 oh0_10 oh0_11 oh0_12 p1 v_parts r2 hc2) (cwV 1 hts gX0_mayFollow_X0_hasPart rfl rfl rfl (by decide +kernel) ⟨Nat.le_of_ble_eq_true rfl, Nat.le_of_ble_eq_true rfl⟩) hK hP hD hS hA rfl rfl rfl rfl rfl (by decide) rfl rfl rfl hl.1 (Nat.le_of_ble_eq_true rfl) dX0_mayFollow_2 ⟨Nat.zero_le _, Nat.zero_le _⟩ rfl rfl (fun H locs hP hD hS => ?_)
  refine lv_if_eq (tgt := 13) hx hb dX0_mayFollow_5 (by decide) (fun c5 => ?_) (fun c5 => ?_)
  · have hM := g_pos c5 hM
    refine lv_aload_n hx hb dX0_mayFollow_13 rfl (lv_at hl 0 rfl) ?_
    refine lv_iload_n hx hb dX0_mayFollow_14 rfl (lv_at hl 1 rfl) ?_
    refine lv_iload_n hx hb dX0_mayFollow_15 rfl (lv_at hl 2 rfl) ?_
    obtain ⟨r16, hc16, hM⟩ := ob1_some hM
    refine cl_vi (As := [.int p1, .int p2]) (rest := []) (ci := 0) (q0 := 0) (wr := []) (ws2 := [(h0, .inr (0, [.int v_parts, oh0_1, oh0_2, oh0_3, oh0_4, oh0_5, oh0_6, oh0_7, .ref h0_near, oh0_9, oh0_10, oh0_11, oh0_12])), (h0_near, .inl (cy 2, 7, .inl v_near))]) (isC := [0, 1]) (isR := []) (pm := [0, 1]) hx hb hml hown hts (c0_hasWay l D cy N h0 h0_near oh0_1 oh0_2 oh0_3 oh0_4 oh0_5 oh0_6 oh0_7 oh0_9 oh0_10 oh0_11 oh0_12 p1 p2 v_parts v_near r16 hc16) (cwV 2 hts gX0_mayFollow_X0_hasWay rfl rfl rfl (by decide +kernel) ⟨Nat.le_of_ble_eq_true rfl, Nat.le_of_ble_eq_true rfl⟩) hK hP hD hS hA rfl rfl rfl rfl rfl (by decide) rfl rfl rfl hl.1 (Nat.le_of_ble_eq_true rfl) dX0_mayFollow_16 ⟨Nat.zero_le _, Nat.zero_le _⟩ rfl rfl (fun H locs hP hD hS => ?_)
    refine lv_if_eq (tgt := 26) hx hb dX0_mayFollow_19 (by decide) (fun c19 => ?_) (fun c19 => ?_)
    · have hM := g_pos c19 hM
      refine lv_iconst (v := 0) hx hb dX0_mayFollow_26 (by decide) ?_
      obtain rfl := si1 hM
      exact hret _ _ _ _ _ dX0_mayFollow_27 rfl rfl hP hD hS
    · have hM := g_neg c19 hM
      refine lv_iconst (v := 1) hx hb dX0_mayFollow_22 (by decide) ?_
      refine lv_goto (tgt := 27) hx hb dX0_mayFollow_23 (by decide) ?_
      obtain rfl := si1 hM
      exact hret _ _ _ _ _ dX0_mayFollow_27 rfl rfl hP hD hS
  · have hM := g_neg c5 hM
    refine lv_iload_n hx hb dX0_mayFollow_8 rfl (lv_at hl 1 rfl) ?_
    refine lv_iload_n hx hb dX0_mayFollow_9 rfl (lv_at hl 2 rfl) ?_
    refine lv_icmp_eq (tgt := 22) hx hb dX0_mayFollow_10 (by decide) (fun c10 => ?_) (fun c10 => ?_)
    · have hM := g_pos c10 hM
      refine lv_iconst (v := 1) hx hb dX0_mayFollow_22 (by decide) ?_
      refine lv_goto (tgt := 27) hx hb dX0_mayFollow_23 (by decide) ?_
      obtain rfl := si1 hM
      exact hret _ _ _ _ _ dX0_mayFollow_27 rfl rfl hP hD hS
    · have hM := g_neg c10 hM
      refine lv_aload_n hx hb dX0_mayFollow_13 rfl (lv_at hl 0 rfl) ?_
      refine lv_iload_n hx hb dX0_mayFollow_14 rfl (lv_at hl 1 rfl) ?_
      refine lv_iload_n hx hb dX0_mayFollow_15 rfl (lv_at hl 2 rfl) ?_
      obtain ⟨r16, hc16, hM⟩ := ob1_some hM
      refine cl_vi (As := [.int p1, .int p2]) (rest := []) (ci := 0) (q0 := 0) (wr := []) (ws2 := [(h0, .inr (0, [.int v_parts, oh0_1, oh0_2, oh0_3, oh0_4, oh0_5, oh0_6, oh0_7, .ref h0_near, oh0_9, oh0_10, oh0_11, oh0_12])), (h0_near, .inl (cy 2, 7, .inl v_near))]) (isC := [0, 1]) (isR := []) (pm := [0, 1]) hx hb hml hown hts (c0_hasWay l D cy N h0 h0_near oh0_1 oh0_2 oh0_3 oh0_4 oh0_5 oh0_6 oh0_7 oh0_9 oh0_10 oh0_11 oh0_12 p1 p2 v_parts v_near r16 hc16) (cwV 2 hts gX0_mayFollow_X0_hasWay rfl rfl rfl (by decide +kernel) ⟨Nat.le_of_ble_eq_true rfl, Nat.le_of_ble_eq_true rfl⟩) hK hP hD hS hA rfl rfl rfl rfl rfl (by decide) rfl rfl rfl hl.1 (Nat.le_of_ble_eq_true rfl) dX0_mayFollow_16 ⟨Nat.zero_le _, Nat.zero_le _⟩ rfl rfl (fun H locs hP hD hS => ?_)
      refine lv_if_eq (tgt := 26) hx hb dX0_mayFollow_19 (by decide) (fun c19 => ?_) (fun c19 => ?_)
      · have hM := g_pos c19 hM
        refine lv_iconst (v := 0) hx hb dX0_mayFollow_26 (by decide) ?_
        obtain rfl := si1 hM
        exact hret _ _ _ _ _ dX0_mayFollow_27 rfl rfl hP hD hS
      · have hM := g_neg c19 hM
        refine lv_iconst (v := 1) hx hb dX0_mayFollow_22 (by decide) ?_
        refine lv_goto (tgt := 27) hx hb dX0_mayFollow_23 (by decide) ?_
        obtain rfl := si1 hM
        exact hret _ _ _ _ _ dX0_mayFollow_27 rfl rfl hP hD hS

-- ===== X0_rateOf rateOf (I)I =====
abbrev r0_rateOf : Room := { frames := 1, cells := 0, slots := 0, locals := 21 }
def f0_rateOf (N : Nat) (p1 : Int32) (v_parts : Int32) (v_rate : Nat → Int32) : Option Int32 :=
  ob1 (f0_hasPart N p1 v_parts) fun r2 => if r2 = (0 : Int32) then (some (0 : Int32)) else (gi p1 7 (some (v_rate p1.toNatClampNeg)))
set_option maxHeartbeats 4000000 in
set_option maxRecDepth 100000 in
theorem c0_rateOf (l : Launch) (D : va_G) (cy : Nat → ClassId) (N : Nat) (h0 h0_rate : Nat) (oh0_1 oh0_2 oh0_3 oh0_4 oh0_5 oh0_6 oh0_8 oh0_9 oh0_10 oh0_11 oh0_12 : Value) (p1 : Int32) (v_parts : Int32) (v_rate : Nat → Int32) (r : Int32) (hM : f0_rateOf N p1 v_parts v_rate = some r) (sz : Nat) : CTi l yX0_rateOf wsX0_rateOf r0_rateOf [.ref h0, .int p1] D cy sz [(h0, .inr (0, [.int v_parts, oh0_1, oh0_2, oh0_3, oh0_4, oh0_5, oh0_6, .ref h0_rate, oh0_8, oh0_9, oh0_10, oh0_11, oh0_12])), (h0_rate, .inl (cy 2, 7, .inl v_rate))] [(h0, .inr (0, [.int v_parts, oh0_1, oh0_2, oh0_3, oh0_4, oh0_5, oh0_6, .ref h0_rate, oh0_8, oh0_9, oh0_10, oh0_11, oh0_12])), (h0_rate, .inl (cy 2, 7, .inl v_rate))] r := by
  unfold f0_rateOf at hM
  refine ct_oi (cc := cX0_rateOf) (maxL := 2) (ty := .int) (by decide +kernel) rfl (Nat.le_of_ble_eq_true rfl) (lv0 := [(0, .ref h0), (1, .int p1)]) rfl ?_
  intro p e s m args below meth c A Q ls hx hb hts hown hml hK hP hD hS hA hret hl
  have hown : s.vm.findClass RX0 = some m.cls := hown
  have k9 := hts (.fieldLink RX0 9 "CaveYears$Cave" "rate" "[I") (by decide +kernel)
  have iX0 := (by decide +kernel : ∀ w ∈ wsX00, w ∈ wsX0_rateOf)
  refine lv_aload_n hx hb dX0_rateOf_0 rfl (lv_at hl 0 rfl) ?_
  refine lv_iload_n hx hb dX0_rateOf_1 rfl (lv_at hl 1 rfl) ?_
  obtain ⟨r2, hc2, hM⟩ := ob1_some hM
  refine cl_vi (As := [.int p1]) (rest := []) (ci := 0) (q0 := 0) (wr := [(h0_rate, .inl (cy 2, 7, .inl v_rate))]) (ws2 := [(h0, .inr (0, [.int v_parts, oh0_1, oh0_2, oh0_3, oh0_4, oh0_5, oh0_6, .ref h0_rate, oh0_8, oh0_9, oh0_10, oh0_11, oh0_12])), (h0_rate, .inl (cy 2, 7, .inl v_rate))]) (isC := [0]) (isR := [1]) (pm := [1, 0]) hx hb hml hown hts (c0_hasPart l D cy N h0 oh0_1 oh0_2 oh0_3 oh0_4 oh0_5 oh0_6 (.ref h0_rate) oh0_8 oh0_9 oh0_10 oh0_11 oh0_12 p1 v_parts r2 hc2) (cwV 1 hts gX0_rateOf_X0_hasPart rfl rfl rfl (by decide +kernel) ⟨Nat.le_of_ble_eq_true rfl, Nat.le_of_ble_eq_true rfl⟩) hK hP hD hS hA rfl rfl rfl rfl rfl (by decide) rfl rfl rfl hl.1 (Nat.le_of_ble_eq_true rfl) dX0_rateOf_2 ⟨Nat.zero_le _, Nat.zero_le _⟩ rfl rfl (fun H locs hP hD hS => ?_)
  refine lv_if_eq (tgt := 17) hx hb dX0_rateOf_5 (by decide) (fun c5 => ?_) (fun c5 => ?_)
  · have hM := g_pos c5 hM
    refine lv_iconst (v := 0) hx hb dX0_rateOf_17 (by decide) ?_
    obtain rfl := si1 hM
    exact hret _ _ _ _ _ dX0_rateOf_18 rfl rfl hP hD hS
  · have hM := g_neg c5 hM
    refine lv_aload_n hx hb dX0_rateOf_8 rfl (lv_at hl 0 rfl) ?_
    refine va_get (D := D) (ci := 0) (v := .ref h0_rate) (C := RX0) (T := TX0) (N := 13) hx hb hts iX0 hown hK hP 0 rfl rfl 7 (by decide) k9 (fun _ h9 => h9) rfl dX0_rateOf_9 ?_
    refine lv_iload_n hx hb dX0_rateOf_12 rfl (lv_at hl 1 rfl) ?_
    obtain ⟨h13, hM⟩ := gi_some hM
    refine va_iald hx hb hK hP 1 2 rfl rfl h13 dX0_rateOf_13 ?_
    refine lv_goto (tgt := 18) hx hb dX0_rateOf_14 (by decide) ?_
    obtain rfl := si1 hM
    exact hret _ _ _ _ _ dX0_rateOf_18 rfl rfl hP hD hS

-- ===== X0_alikeSet alikeSet (I)I =====
abbrev r0_alikeSet : Room := { frames := 2, cells := 0, slots := 0, locals := 42 }
def f0_alikeSet_L4 (N : Nat) (p1 : Int32) (v_parts : Int32) (v_rate : Nat → Int32) : Nat → Int32 → Int32 → Option Int32
  | 0, _, _ => none
  | n + 1, x2_4, x3_4 => if (7 : Int32) ≤ x3_4 then (some x2_4) else (if x3_4 = p1 then ((f0_alikeSet_L4 N p1 v_parts v_rate n) x2_4 (x3_4 + (1 : Int32))) else (ob1 (f0_hasPart N x3_4 v_parts) fun r17 => if r17 = (0 : Int32) then ((f0_alikeSet_L4 N p1 v_parts v_rate n) x2_4 (x3_4 + (1 : Int32))) else (gi x3_4 7 (ob1 (f0_rateOf N p1 v_parts v_rate) fun r31 => if (v_rate x3_4.toNatClampNeg) = r31 then ((f0_alikeSet_L4 N p1 v_parts v_rate n) (x2_4 ||| ((1 : Int32) <<< (x3_4 &&& 31))) (x3_4 + (1 : Int32))) else ((f0_alikeSet_L4 N p1 v_parts v_rate n) x2_4 (x3_4 + (1 : Int32)))))))
def f0_alikeSet (N : Nat) (p1 : Int32) (v_parts : Int32) (v_rate : Nat → Int32) : Option Int32 :=
  ob1 (f0_alikeSet_L4 N p1 v_parts v_rate N (0 : Int32) (0 : Int32)) fun e2_4 => some e2_4
set_option maxHeartbeats 4000000 in
set_option maxRecDepth 100000 in
theorem c0_alikeSet (l : Launch) (D : va_G) (cy : Nat → ClassId) (N : Nat) (h0 h0_rate : Nat) (oh0_1 oh0_2 oh0_3 oh0_4 oh0_5 oh0_6 oh0_8 oh0_9 oh0_10 oh0_11 oh0_12 : Value) (p1 : Int32) (v_parts : Int32) (v_rate : Nat → Int32) (r : Int32) (hM : f0_alikeSet N p1 v_parts v_rate = some r) (sz : Nat) : CTi l yX0_alikeSet wsX0_alikeSet r0_alikeSet [.ref h0, .int p1] D cy sz [(h0, .inr (0, [.int v_parts, oh0_1, oh0_2, oh0_3, oh0_4, oh0_5, oh0_6, .ref h0_rate, oh0_8, oh0_9, oh0_10, oh0_11, oh0_12])), (h0_rate, .inl (cy 2, 7, .inl v_rate))] [(h0, .inr (0, [.int v_parts, oh0_1, oh0_2, oh0_3, oh0_4, oh0_5, oh0_6, .ref h0_rate, oh0_8, oh0_9, oh0_10, oh0_11, oh0_12])), (h0_rate, .inl (cy 2, 7, .inl v_rate))] r := by
  unfold f0_alikeSet at hM
  refine ct_oi (cc := cX0_alikeSet) (maxL := 4) (ty := .int) (by decide +kernel) rfl (Nat.le_of_ble_eq_true rfl) (lv0 := [(0, .ref h0), (1, .int p1)]) rfl ?_
  intro p e s m args below meth c A Q ls hx hb hts hown hml hK hP hD hS hA hret hl
  have hown : s.vm.findClass RX0 = some m.cls := hown
  have k9 := hts (.fieldLink RX0 9 "CaveYears$Cave" "rate" "[I") (by decide +kernel)
  have iX0 := (by decide +kernel : ∀ w ∈ wsX00, w ∈ wsX0_alikeSet)
  refine lv_iconst (v := 0) hx hb dX0_alikeSet_0 (by decide) ?_
  refine lv_istore_n (lv' := [(2, .int (0 : Int32)), (0, .ref h0), (1, .int p1)]) hx hb dX0_alikeSet_1 rfl hl (by decide) rfl (fun ls hl => ?_)
  refine lv_iconst (v := 0) hx hb dX0_alikeSet_2 (by decide) ?_
  refine lv_istore_n (lv' := [(3, .int (0 : Int32)), (2, .int (0 : Int32)), (0, .ref h0), (1, .int p1)]) hx hb dX0_alikeSet_3 rfl hl (by decide) rfl (fun ls hl => ?_)
  have L4 : ∀ (n : Nat) (x2_4 : Int32) (x3_4 : Int32) (e2_4 : Int32) (H : Heap) (locs : List Loc) (ls : Array Slot), f0_alikeSet_L4 N p1 v_parts v_rate n x2_4 x3_4 = some e2_4 → va_P D vwCl [(h0, .inr (0, [.int v_parts, oh0_1, oh0_2, oh0_3, oh0_4, oh0_5, oh0_6, .ref h0_rate, oh0_8, oh0_9, oh0_10, oh0_11, oh0_12])), (h0_rate, .inl (cy 2, 7, .inl v_rate))] H → va_D A [(h0, .inr (0, [.int v_parts, oh0_1, oh0_2, oh0_3, oh0_4, oh0_5, oh0_6, .ref h0_rate, oh0_8, oh0_9, oh0_10, oh0_11, oh0_12])), (h0_rate, .inl (cy 2, 7, .inl v_rate))] → va_S A s.heap H locs → lv_has ls 4 [(0, .ref h0), (1, .int p1), (2, .int x2_4), (3, .int x3_4)] → (∀ (H : Heap) (locs : List Loc) (ls : Array Slot), va_P D vwCl [(h0, .inr (0, [.int v_parts, oh0_1, oh0_2, oh0_3, oh0_4, oh0_5, oh0_6, .ref h0_rate, oh0_8, oh0_9, oh0_10, oh0_11, oh0_12])), (h0_rate, .inl (cy 2, 7, .inl v_rate))] H → va_D A [(h0, .inr (0, [.int v_parts, oh0_1, oh0_2, oh0_3, oh0_4, oh0_5, oh0_6, .ref h0_rate, oh0_8, oh0_9, oh0_10, oh0_11, oh0_12])), (h0_rate, .inl (cy 2, 7, .inl v_rate))] → va_S A s.heap H locs → lv_has ls 4 [(2, .int e2_4)] → W p l e r0_alikeSet s m args below meth c H locs 0 0 Q (F0 m 49 ls [])) → W p l e r0_alikeSet s m args below meth c H locs 0 0 Q (F0 m 4 ls []) := by
    intro n
    induction n with
    | zero =>
      intro x2_4 x3_4 e2_4 H locs ls hM
      exact absurd hM (by simp [f0_alikeSet_L4])
    | succ n ih =>
      intro x2_4 x3_4 e2_4 H locs ls hM hP hD hS hl K
      rw [f0_alikeSet_L4] at hM
      refine lv_iload_n hx hb dX0_alikeSet_4 rfl (lv_at hl 3 rfl) ?_
      refine lv_bipush (v := 7) hx hb dX0_alikeSet_5 (by decide) ?_
      refine lv_icmp_ge (tgt := 49) hx hb dX0_alikeSet_7 (by decide) (fun c7 => ?_) (fun c7 => ?_)
      · have hM := g_pos c7 hM
        obtain rfl := si1 hM
        exact K _ _ _ hP hD hS (lv_sub hl [2] rfl)
      · have hM := g_neg c7 hM
        refine lv_iload_n hx hb dX0_alikeSet_10 rfl (lv_at hl 3 rfl) ?_
        refine lv_iload_n hx hb dX0_alikeSet_11 rfl (lv_at hl 1 rfl) ?_
        refine lv_icmp_eq (tgt := 43) hx hb dX0_alikeSet_12 (by decide) (fun c12 => ?_) (fun c12 => ?_)
        · have hM := g_pos c12 hM
          refine lv_iinc (v := x3_4 + (1 : Int32)) (lv' := [(3, .int (x3_4 + (1 : Int32))), (0, .ref h0), (1, .int p1), (2, .int x2_4)]) hx hb dX0_alikeSet_43 hl (k := 3) rfl rfl (by decide) rfl (fun ls hl => ?_)
          refine lv_goto (tgt := 4) hx hb dX0_alikeSet_46 (by decide) ?_
          exact ih x2_4 (x3_4 + (1 : Int32)) e2_4 _ _ _ hM hP hD hS (lv_sub hl [1, 2, 3, 0] rfl) K
        · have hM := g_neg c12 hM
          refine lv_aload_n hx hb dX0_alikeSet_15 rfl (lv_at hl 0 rfl) ?_
          refine lv_iload_n hx hb dX0_alikeSet_16 rfl (lv_at hl 3 rfl) ?_
          obtain ⟨r17, hc17, hM⟩ := ob1_some hM
          refine cl_vi (As := [.int x3_4]) (rest := []) (ci := 0) (q0 := 0) (wr := [(h0_rate, .inl (cy 2, 7, .inl v_rate))]) (ws2 := [(h0, .inr (0, [.int v_parts, oh0_1, oh0_2, oh0_3, oh0_4, oh0_5, oh0_6, .ref h0_rate, oh0_8, oh0_9, oh0_10, oh0_11, oh0_12])), (h0_rate, .inl (cy 2, 7, .inl v_rate))]) (isC := [0]) (isR := [1]) (pm := [1, 0]) hx hb hml hown hts (c0_hasPart l D cy N h0 oh0_1 oh0_2 oh0_3 oh0_4 oh0_5 oh0_6 (.ref h0_rate) oh0_8 oh0_9 oh0_10 oh0_11 oh0_12 x3_4 v_parts r17 hc17) (cwV 1 hts gX0_alikeSet_X0_hasPart rfl rfl rfl (by decide +kernel) ⟨Nat.le_of_ble_eq_true rfl, Nat.le_of_ble_eq_true rfl⟩) hK hP hD hS hA rfl rfl rfl rfl rfl (by decide) rfl rfl rfl hl.1 (Nat.le_of_ble_eq_true rfl) dX0_alikeSet_17 ⟨Nat.zero_le _, Nat.zero_le _⟩ rfl rfl (fun H locs hP hD hS => ?_)
          refine lv_if_eq (tgt := 43) hx hb dX0_alikeSet_20 (by decide) (fun c20 => ?_) (fun c20 => ?_)
          · have hM := g_pos c20 hM
            refine lv_iinc (v := x3_4 + (1 : Int32)) (lv' := [(3, .int (x3_4 + (1 : Int32))), (0, .ref h0), (1, .int p1), (2, .int x2_4)]) hx hb dX0_alikeSet_43 hl (k := 3) rfl rfl (by decide) rfl (fun ls hl => ?_)
            refine lv_goto (tgt := 4) hx hb dX0_alikeSet_46 (by decide) ?_
            exact ih x2_4 (x3_4 + (1 : Int32)) e2_4 _ _ _ hM hP hD hS (lv_sub hl [1, 2, 3, 0] rfl) K
          · have hM := g_neg c20 hM
            refine lv_aload_n hx hb dX0_alikeSet_23 rfl (lv_at hl 0 rfl) ?_
            refine va_get (D := D) (ci := 0) (v := .ref h0_rate) (C := RX0) (T := TX0) (N := 13) hx hb hts iX0 hown hK hP 0 rfl rfl 7 (by decide) k9 (fun _ h9 => h9) rfl dX0_alikeSet_24 ?_
            refine lv_iload_n hx hb dX0_alikeSet_27 rfl (lv_at hl 3 rfl) ?_
            obtain ⟨h28, hM⟩ := gi_some hM
            refine va_iald hx hb hK hP 1 2 rfl rfl h28 dX0_alikeSet_28 ?_
            refine lv_aload_n hx hb dX0_alikeSet_29 rfl (lv_at hl 0 rfl) ?_
            refine lv_iload_n hx hb dX0_alikeSet_30 rfl (lv_at hl 1 rfl) ?_
            obtain ⟨r31, hc31, hM⟩ := ob1_some hM
            refine cl_vi (As := [.int p1]) (rest := [.int (v_rate x3_4.toNatClampNeg)]) (ci := 0) (q0 := 0) (wr := []) (ws2 := [(h0, .inr (0, [.int v_parts, oh0_1, oh0_2, oh0_3, oh0_4, oh0_5, oh0_6, .ref h0_rate, oh0_8, oh0_9, oh0_10, oh0_11, oh0_12])), (h0_rate, .inl (cy 2, 7, .inl v_rate))]) (isC := [0, 1]) (isR := []) (pm := [0, 1]) hx hb hml hown hts (c0_rateOf l D cy N h0 h0_rate oh0_1 oh0_2 oh0_3 oh0_4 oh0_5 oh0_6 oh0_8 oh0_9 oh0_10 oh0_11 oh0_12 p1 v_parts v_rate r31 hc31) (cwV 1 hts gX0_alikeSet_X0_rateOf rfl rfl rfl (by decide +kernel) ⟨Nat.le_of_ble_eq_true rfl, Nat.le_of_ble_eq_true rfl⟩) hK hP hD hS hA rfl rfl rfl rfl rfl (by decide) rfl rfl rfl hl.1 (Nat.le_of_ble_eq_true rfl) dX0_alikeSet_31 ⟨Nat.zero_le _, Nat.zero_le _⟩ rfl rfl (fun H locs hP hD hS => ?_)
            refine lv_icmp_ne (tgt := 43) hx hb dX0_alikeSet_34 (by decide) (fun c34 => ?_) (fun c34 => ?_)
            · have hM := g_neg c34 hM
              refine lv_iinc (v := x3_4 + (1 : Int32)) (lv' := [(3, .int (x3_4 + (1 : Int32))), (0, .ref h0), (1, .int p1), (2, .int x2_4)]) hx hb dX0_alikeSet_43 hl (k := 3) rfl rfl (by decide) rfl (fun ls hl => ?_)
              refine lv_goto (tgt := 4) hx hb dX0_alikeSet_46 (by decide) ?_
              exact ih x2_4 (x3_4 + (1 : Int32)) e2_4 _ _ _ hM hP hD hS (lv_sub hl [1, 2, 3, 0] rfl) K
            · have hM := g_pos c34 hM
              refine lv_iload_n hx hb dX0_alikeSet_37 rfl (lv_at hl 2 rfl) ?_
              refine lv_iconst (v := 1) hx hb dX0_alikeSet_38 (by decide) ?_
              refine lv_iload_n hx hb dX0_alikeSet_39 rfl (lv_at hl 3 rfl) ?_
              refine lv_ishl hx hb dX0_alikeSet_40 ?_
              refine lv_ior hx hb dX0_alikeSet_41 ?_
              refine lv_istore_n (lv' := [(2, .int (x2_4 ||| ((1 : Int32) <<< (x3_4 &&& 31)))), (0, .ref h0), (1, .int p1), (3, .int x3_4)]) hx hb dX0_alikeSet_42 rfl hl (by decide) rfl (fun ls hl => ?_)
              refine lv_iinc (v := x3_4 + (1 : Int32)) (lv' := [(3, .int (x3_4 + (1 : Int32))), (2, .int (x2_4 ||| ((1 : Int32) <<< (x3_4 &&& 31)))), (0, .ref h0), (1, .int p1)]) hx hb dX0_alikeSet_43 hl (k := 3) rfl rfl (by decide) rfl (fun ls hl => ?_)
              refine lv_goto (tgt := 4) hx hb dX0_alikeSet_46 (by decide) ?_
              exact ih (x2_4 ||| ((1 : Int32) <<< (x3_4 &&& 31))) (x3_4 + (1 : Int32)) e2_4 _ _ _ hM hP hD hS (lv_sub hl [2, 3, 1, 0] rfl) K
  obtain ⟨e2_4, hL4, hM⟩ := ob1_some hM
  refine L4 N (0 : Int32) (0 : Int32) e2_4 _ _ _ hL4 hP hD hS (lv_sub hl [2, 3, 1, 0] rfl) ?_
  intro H locs ls hP hD hS hl
  refine lv_iload_n hx hb dX0_alikeSet_49 rfl (lv_at hl 0 rfl) ?_
  obtain rfl := si1 hM
  exact hret _ _ _ _ _ dX0_alikeSet_50 rfl rfl hP hD hS
