-- ===== X0_hasPart hasPart (I)Z =====
abbrev r0_hasPart : Room := { frames := 0, cells := 0, slots := 0, locals := 0 }
def f0_hasPart (N : Nat) (p1 : Int32) (v_parts : Int32) : Option Int32 :=
  if p1 < (0 : Int32) then (some (0 : Int32)) else (if v_parts ≤ p1 then (some (0 : Int32)) else (if (7 : Int32) ≤ p1 then (some (0 : Int32)) else (some (1 : Int32))))
set_option maxHeartbeats 4000000 in
set_option maxRecDepth 100000 in
theorem c0_hasPart (l : Launch) (D : va_G) (cy : Nat → ClassId) (N : Nat) (h0 : Nat) (oh0_1 oh0_2 oh0_3 oh0_4 oh0_5 oh0_6 oh0_7 oh0_8 oh0_9 oh0_10 oh0_11 oh0_12 : Value) (p1 : Int32) (v_parts : Int32) (r : Int32) (hM : f0_hasPart N p1 v_parts = some r) (sz : Nat) : CTi l yX0_hasPart wsX0_hasPart r0_hasPart [.ref h0, .int p1] D cy sz [(h0, .inr (0, [.int v_parts, oh0_1, oh0_2, oh0_3, oh0_4, oh0_5, oh0_6, oh0_7, oh0_8, oh0_9, oh0_10, oh0_11, oh0_12]))] [(h0, .inr (0, [.int v_parts, oh0_1, oh0_2, oh0_3, oh0_4, oh0_5, oh0_6, oh0_7, oh0_8, oh0_9, oh0_10, oh0_11, oh0_12]))] r := by
  unfold f0_hasPart at hM
  refine ct_oi (cc := cX0_hasPart) (maxL := 2) (ty := .boolean) (by decide +kernel) rfl (Nat.le_of_ble_eq_true rfl) (lv0 := [(0, .ref h0), (1, .int p1)]) rfl ?_
  intro p e s m args below meth c A Q ls hx hb hts hown hml hK hP hD hS hA hret hl
  have hown : s.vm.findClass RX0 = some m.cls := hown
  have k30 := hts (.fieldLink RX0 30 "CaveYears$Cave" "parts" "I") (List.mem_of_getElem? (i := 1) rfl)
  have iX0 := (fun w h => (List.mem_cons_of_mem _ (List.mem_append_right _ h)) : ∀ w ∈ wsX00, w ∈ wsX0_hasPart)
  refine lv_iload_n hx hb dX0_hasPart_0 rfl (lv_at hl 1 rfl) ?_
  refine lv_if_lt (tgt := 22) hx hb dX0_hasPart_1 (by decide) (fun c1 => ?_) (fun c1 => ?_)
  · have hM := g_pos c1 hM
    refine lv_iconst (v := 0) hx hb dX0_hasPart_22 (by decide) ?_
    obtain rfl := si1 hM
    exact hret _ _ _ _ _ dX0_hasPart_23 rfl rfl hP hD hS
  · have hM := g_neg c1 hM
    refine lv_iload_n hx hb dX0_hasPart_4 rfl (lv_at hl 1 rfl) ?_
    refine lv_aload_n hx hb dX0_hasPart_5 rfl (lv_at hl 0 rfl) ?_
    refine va_get (D := D) (ci := 0) (v := .int v_parts) (C := RX0) (T := TX0) (N := 13) hx hb hts iX0 hown hK hP 0 rfl rfl 0 (by decide) k30 (fun _ h9 => h9) rfl dX0_hasPart_6 ?_
    refine lv_icmp_ge (tgt := 22) hx hb dX0_hasPart_9 (by decide) (fun c9 => ?_) (fun c9 => ?_)
    · have hM := g_pos c9 hM
      refine lv_iconst (v := 0) hx hb dX0_hasPart_22 (by decide) ?_
      obtain rfl := si1 hM
      exact hret _ _ _ _ _ dX0_hasPart_23 rfl rfl hP hD hS
    · have hM := g_neg c9 hM
      refine lv_iload_n hx hb dX0_hasPart_12 rfl (lv_at hl 1 rfl) ?_
      refine lv_bipush (v := 7) hx hb dX0_hasPart_13 (by decide) ?_
      refine lv_icmp_ge (tgt := 22) hx hb dX0_hasPart_15 (by decide) (fun c15 => ?_) (fun c15 => ?_)
      · have hM := g_pos c15 hM
        refine lv_iconst (v := 0) hx hb dX0_hasPart_22 (by decide) ?_
        obtain rfl := si1 hM
        exact hret _ _ _ _ _ dX0_hasPart_23 rfl rfl hP hD hS
      · have hM := g_neg c15 hM
        refine lv_iconst (v := 1) hx hb dX0_hasPart_18 (by decide) ?_
        refine lv_goto (tgt := 23) hx hb dX0_hasPart_19 (by decide) ?_
        obtain rfl := si1 hM
        exact hret _ _ _ _ _ dX0_hasPart_23 rfl rfl hP hD hS

-- ===== X0_hasMouth hasMouth (I)Z =====
abbrev r0_hasMouth : Room := { frames := 1, cells := 0, slots := 0, locals := 21 }
def f0_hasMouth (N : Nat) (p1 : Int32) (v_parts : Int32) (v_mouths : Int32) : Option Int32 :=
  ob1 (f0_hasPart N p1 v_parts) fun r2 => if r2 = (0 : Int32) then (some (0 : Int32)) else (if ((v_mouths >>> (p1 &&& 31)) &&& (1 : Int32)) = (1 : Int32) then (some (1 : Int32)) else (some (0 : Int32)))
set_option maxHeartbeats 4000000 in
set_option maxRecDepth 100000 in
theorem c0_hasMouth (l : Launch) (D : va_G) (cy : Nat → ClassId) (N : Nat) (h0 : Nat) (oh0_2 oh0_3 oh0_4 oh0_5 oh0_6 oh0_7 oh0_8 oh0_9 oh0_10 oh0_11 oh0_12 : Value) (p1 : Int32) (v_parts : Int32) (v_mouths : Int32) (r : Int32) (hM : f0_hasMouth N p1 v_parts v_mouths = some r) (sz : Nat) : CTi l yX0_hasMouth wsX0_hasMouth r0_hasMouth [.ref h0, .int p1] D cy sz [(h0, .inr (0, [.int v_parts, .int v_mouths, oh0_2, oh0_3, oh0_4, oh0_5, oh0_6, oh0_7, oh0_8, oh0_9, oh0_10, oh0_11, oh0_12]))] [(h0, .inr (0, [.int v_parts, .int v_mouths, oh0_2, oh0_3, oh0_4, oh0_5, oh0_6, oh0_7, oh0_8, oh0_9, oh0_10, oh0_11, oh0_12]))] r := by
  unfold f0_hasMouth at hM
  refine ct_oi (cc := cX0_hasMouth) (maxL := 2) (ty := .boolean) (by decide +kernel) rfl (Nat.le_of_ble_eq_true rfl) (lv0 := [(0, .ref h0), (1, .int p1)]) rfl ?_
  intro p e s m args below meth c A Q ls hx hb hts hown hml hK hP hD hS hA hret hl
  have hown : s.vm.findClass RX0 = some m.cls := hown
  have k34 := hts (.fieldLink RX0 34 "CaveYears$Cave" "mouths" "I") (List.mem_of_getElem? (i := 1) rfl)
  have iX0 := (fun w h => (List.mem_cons_of_mem _ (List.mem_append_right _ h)) : ∀ w ∈ wsX00, w ∈ wsX0_hasMouth)
  refine lv_aload_n hx hb dX0_hasMouth_0 rfl (lv_at hl 0 rfl) ?_
  refine lv_iload_n hx hb dX0_hasMouth_1 rfl (lv_at hl 1 rfl) ?_
  obtain ⟨r2, hc2, hM⟩ := ob1_some hM
  refine cl_vi (As := [.int p1]) (rest := []) (ci := 0) (q0 := 0) (wr := []) (ws2 := [(h0, .inr (0, [.int v_parts, .int v_mouths, oh0_2, oh0_3, oh0_4, oh0_5, oh0_6, oh0_7, oh0_8, oh0_9, oh0_10, oh0_11, oh0_12]))]) (isC := [0]) (isR := []) (pm := [0]) hx hb hml hown hts (c0_hasPart l D cy N h0 (.int v_mouths) oh0_2 oh0_3 oh0_4 oh0_5 oh0_6 oh0_7 oh0_8 oh0_9 oh0_10 oh0_11 oh0_12 p1 v_parts r2 hc2) (cwV 1 hts gX0_hasMouth_X0_hasPart rfl rfl rfl (by decide +kernel) ⟨Nat.le_of_ble_eq_true rfl, Nat.le_of_ble_eq_true rfl⟩) hK hP hD hS hA rfl rfl rfl rfl rfl (by decide) rfl rfl rfl hl.1 (Nat.le_of_ble_eq_true rfl) dX0_hasMouth_2 ⟨Nat.zero_le _, Nat.zero_le _⟩ rfl rfl (fun H locs hP hD hS => ?_)
  refine lv_if_eq (tgt := 24) hx hb dX0_hasMouth_5 (by decide) (fun c5 => ?_) (fun c5 => ?_)
  · have hM := g_pos c5 hM
    refine lv_iconst (v := 0) hx hb dX0_hasMouth_24 (by decide) ?_
    obtain rfl := si1 hM
    exact hret _ _ _ _ _ dX0_hasMouth_25 rfl rfl hP hD hS
  · have hM := g_neg c5 hM
    refine lv_aload_n hx hb dX0_hasMouth_8 rfl (lv_at hl 0 rfl) ?_
    refine va_get (D := D) (ci := 0) (v := .int v_mouths) (C := RX0) (T := TX0) (N := 13) hx hb hts iX0 hown hK hP 0 rfl rfl 1 (by decide) k34 (fun _ h9 => h9) rfl dX0_hasMouth_9 ?_
    refine lv_iload_n hx hb dX0_hasMouth_12 rfl (lv_at hl 1 rfl) ?_
    refine lv_ishr hx hb dX0_hasMouth_13 ?_
    refine lv_iconst (v := 1) hx hb dX0_hasMouth_14 (by decide) ?_
    refine lv_iand hx hb dX0_hasMouth_15 ?_
    refine lv_iconst (v := 1) hx hb dX0_hasMouth_16 (by decide) ?_
    refine lv_icmp_ne (tgt := 24) hx hb dX0_hasMouth_17 (by decide) (fun c17 => ?_) (fun c17 => ?_)
    · have hM := g_neg c17 hM
      refine lv_iconst (v := 0) hx hb dX0_hasMouth_24 (by decide) ?_
      obtain rfl := si1 hM
      exact hret _ _ _ _ _ dX0_hasMouth_25 rfl rfl hP hD hS
    · have hM := g_pos c17 hM
      refine lv_iconst (v := 1) hx hb dX0_hasMouth_20 (by decide) ?_
      refine lv_goto (tgt := 25) hx hb dX0_hasMouth_21 (by decide) ?_
      obtain rfl := si1 hM
      exact hret _ _ _ _ _ dX0_hasMouth_25 rfl rfl hP hD hS

-- ===== X0_hasWay hasWay (II)Z =====
abbrev r0_hasWay : Room := { frames := 1, cells := 0, slots := 0, locals := 21 }
def f0_hasWay (N : Nat) (p1 : Int32) (p2 : Int32) (v_parts : Int32) (v_near : Nat → Int32) : Option Int32 :=
  ob1 (f0_hasPart N p1 v_parts) fun r2 => if r2 = (0 : Int32) then (some (0 : Int32)) else (ob1 (f0_hasPart N p2 v_parts) fun r10 => if r10 = (0 : Int32) then (some (0 : Int32)) else (gi p1 7 (if (((v_near p1.toNatClampNeg) >>> (p2 &&& 31)) &&& (1 : Int32)) = (1 : Int32) then (some (1 : Int32)) else (some (0 : Int32)))))
set_option maxHeartbeats 4000000 in
set_option maxRecDepth 100000 in
theorem c0_hasWay (l : Launch) (D : va_G) (cy : Nat → ClassId) (N : Nat) (h0 h0_near : Nat) (oh0_1 oh0_2 oh0_3 oh0_4 oh0_5 oh0_6 oh0_7 oh0_9 oh0_10 oh0_11 oh0_12 : Value) (p1 : Int32) (p2 : Int32) (v_parts : Int32) (v_near : Nat → Int32) (r : Int32) (hM : f0_hasWay N p1 p2 v_parts v_near = some r) (sz : Nat) : CTi l yX0_hasWay wsX0_hasWay r0_hasWay [.ref h0, .int p1, .int p2] D cy sz [(h0, .inr (0, [.int v_parts, oh0_1, oh0_2, oh0_3, oh0_4, oh0_5, oh0_6, oh0_7, .ref h0_near, oh0_9, oh0_10, oh0_11, oh0_12])), (h0_near, .inl (cy 2, 7, .inl v_near))] [(h0, .inr (0, [.int v_parts, oh0_1, oh0_2, oh0_3, oh0_4, oh0_5, oh0_6, oh0_7, .ref h0_near, oh0_9, oh0_10, oh0_11, oh0_12])), (h0_near, .inl (cy 2, 7, .inl v_near))] r := by
  unfold f0_hasWay at hM
  refine ct_oi (cc := cX0_hasWay) (maxL := 3) (ty := .boolean) (by decide +kernel) rfl (Nat.le_of_ble_eq_true rfl) (lv0 := [(0, .ref h0), (1, .int p1), (2, .int p2)]) rfl ?_
  intro p e s m args below meth c A Q ls hx hb hts hown hml hK hP hD hS hA hret hl
  have hown : s.vm.findClass RX0 = some m.cls := hown
  have k15 := hts (.fieldLink RX0 15 "CaveYears$Cave" "near" "[I") (List.mem_of_getElem? (i := 1) rfl)
  have iX0 := (fun w h => (List.mem_cons_of_mem _ (List.mem_append_right _ h)) : ∀ w ∈ wsX00, w ∈ wsX0_hasWay)
  refine lv_aload_n hx hb dX0_hasWay_0 rfl (lv_at hl 0 rfl) ?_
  refine lv_iload_n hx hb dX0_hasWay_1 rfl (lv_at hl 1 rfl) ?_
  obtain ⟨r2, hc2, hM⟩ := ob1_some hM
  refine cl_vi (As := [.int p1]) (rest := []) (ci := 0) (q0 := 0) (wr := [(h0_near, .inl (cy 2, 7, .inl v_near))]) (ws2 := [(h0, .inr (0, [.int v_parts, oh0_1, oh0_2, oh0_3, oh0_4, oh0_5, oh0_6, oh0_7, .ref h0_near, oh0_9, oh0_10, oh0_11, oh0_12])), (h0_near, .inl (cy 2, 7, .inl v_near))]) (isC := [0]) (isR := [1]) (pm := [1, 0]) hx hb hml hown hts (c0_hasPart l D cy N h0 oh0_1 oh0_2 oh0_3 oh0_4 oh0_5 oh0_6 oh0_7 (.ref h0_near) oh0_9 oh0_10 oh0_11 oh0_12 p1 v_parts r2 hc2) (cwV 1 hts gX0_hasWay_X0_hasPart rfl rfl rfl (by decide +kernel) ⟨Nat.le_of_ble_eq_true rfl, Nat.le_of_ble_eq_true rfl⟩) hK hP hD hS hA rfl rfl rfl rfl rfl (by decide) rfl rfl rfl hl.1 (Nat.le_of_ble_eq_true rfl) dX0_hasWay_2 ⟨Nat.zero_le _, Nat.zero_le _⟩ rfl rfl (fun H locs hP hD hS => ?_)
  refine lv_if_eq (tgt := 34) hx hb dX0_hasWay_5 (by decide) (fun c5 => ?_) (fun c5 => ?_)
  · have hM := g_pos c5 hM
    refine lv_iconst (v := 0) hx hb dX0_hasWay_34 (by decide) ?_
    obtain rfl := si1 hM
    exact hret _ _ _ _ _ dX0_hasWay_35 rfl rfl hP hD hS
  · have hM := g_neg c5 hM
    refine lv_aload_n hx hb dX0_hasWay_8 rfl (lv_at hl 0 rfl) ?_
    refine lv_iload_n hx hb dX0_hasWay_9 rfl (lv_at hl 2 rfl) ?_
    obtain ⟨r10, hc10, hM⟩ := ob1_some hM
    refine cl_vi (As := [.int p2]) (rest := []) (ci := 0) (q0 := 0) (wr := [(h0_near, .inl (cy 2, 7, .inl v_near))]) (ws2 := [(h0, .inr (0, [.int v_parts, oh0_1, oh0_2, oh0_3, oh0_4, oh0_5, oh0_6, oh0_7, .ref h0_near, oh0_9, oh0_10, oh0_11, oh0_12])), (h0_near, .inl (cy 2, 7, .inl v_near))]) (isC := [0]) (isR := [1]) (pm := [1, 0]) hx hb hml hown hts (c0_hasPart l D cy N h0 oh0_1 oh0_2 oh0_3 oh0_4 oh0_5 oh0_6 oh0_7 (.ref h0_near) oh0_9 oh0_10 oh0_11 oh0_12 p2 v_parts r10 hc10) (cwV 1 hts gX0_hasWay_X0_hasPart rfl rfl rfl (by decide +kernel) ⟨Nat.le_of_ble_eq_true rfl, Nat.le_of_ble_eq_true rfl⟩) hK hP hD hS hA rfl rfl rfl rfl rfl (by decide) rfl rfl rfl hl.1 (Nat.le_of_ble_eq_true rfl) dX0_hasWay_10 ⟨Nat.zero_le _, Nat.zero_le _⟩ rfl rfl (fun H locs hP hD hS => ?_)
    refine lv_if_eq (tgt := 34) hx hb dX0_hasWay_13 (by decide) (fun c13 => ?_) (fun c13 => ?_)
    · have hM := g_pos c13 hM
      refine lv_iconst (v := 0) hx hb dX0_hasWay_34 (by decide) ?_
      obtain rfl := si1 hM
      exact hret _ _ _ _ _ dX0_hasWay_35 rfl rfl hP hD hS
    · have hM := g_neg c13 hM
      refine lv_aload_n hx hb dX0_hasWay_16 rfl (lv_at hl 0 rfl) ?_
      refine va_get (D := D) (ci := 0) (v := .ref h0_near) (C := RX0) (T := TX0) (N := 13) hx hb hts iX0 hown hK hP 0 rfl rfl 8 (by decide) k15 (fun _ h9 => h9) rfl dX0_hasWay_17 ?_
      refine lv_iload_n hx hb dX0_hasWay_20 rfl (lv_at hl 1 rfl) ?_
      obtain ⟨h21, hM⟩ := gi_some hM
      refine va_iald hx hb hK hP 1 2 rfl rfl h21 dX0_hasWay_21 ?_
      refine lv_iload_n hx hb dX0_hasWay_22 rfl (lv_at hl 2 rfl) ?_
      refine lv_ishr hx hb dX0_hasWay_23 ?_
      refine lv_iconst (v := 1) hx hb dX0_hasWay_24 (by decide) ?_
      refine lv_iand hx hb dX0_hasWay_25 ?_
      refine lv_iconst (v := 1) hx hb dX0_hasWay_26 (by decide) ?_
      refine lv_icmp_ne (tgt := 34) hx hb dX0_hasWay_27 (by decide) (fun c27 => ?_) (fun c27 => ?_)
      · have hM := g_neg c27 hM
        refine lv_iconst (v := 0) hx hb dX0_hasWay_34 (by decide) ?_
        obtain rfl := si1 hM
        exact hret _ _ _ _ _ dX0_hasWay_35 rfl rfl hP hD hS
      · have hM := g_pos c27 hM
        refine lv_iconst (v := 1) hx hb dX0_hasWay_30 (by decide) ?_
        refine lv_goto (tgt := 35) hx hb dX0_hasWay_31 (by decide) ?_
        obtain rfl := si1 hM
        exact hret _ _ _ _ _ dX0_hasWay_35 rfl rfl hP hD hS

-- ===== X0_hasPerson hasPerson (I)Z =====
abbrev r0_hasPerson : Room := { frames := 0, cells := 0, slots := 0, locals := 0 }
def f0_hasPerson (N : Nat) (p1 : Int32) (v_persons : Int32) : Option Int32 :=
  if p1 < (0 : Int32) then (some (0 : Int32)) else (if v_persons ≤ p1 then (some (0 : Int32)) else (if (6 : Int32) ≤ p1 then (some (0 : Int32)) else (some (1 : Int32))))
set_option maxHeartbeats 4000000 in
set_option maxRecDepth 100000 in
theorem c0_hasPerson (l : Launch) (D : va_G) (cy : Nat → ClassId) (N : Nat) (h0 : Nat) (oh0_0 oh0_1 oh0_2 oh0_4 oh0_5 oh0_6 oh0_7 oh0_8 oh0_9 oh0_10 oh0_11 oh0_12 : Value) (p1 : Int32) (v_persons : Int32) (r : Int32) (hM : f0_hasPerson N p1 v_persons = some r) (sz : Nat) : CTi l yX0_hasPerson wsX0_hasPerson r0_hasPerson [.ref h0, .int p1] D cy sz [(h0, .inr (0, [oh0_0, oh0_1, oh0_2, .int v_persons, oh0_4, oh0_5, oh0_6, oh0_7, oh0_8, oh0_9, oh0_10, oh0_11, oh0_12]))] [(h0, .inr (0, [oh0_0, oh0_1, oh0_2, .int v_persons, oh0_4, oh0_5, oh0_6, oh0_7, oh0_8, oh0_9, oh0_10, oh0_11, oh0_12]))] r := by
  unfold f0_hasPerson at hM
  refine ct_oi (cc := cX0_hasPerson) (maxL := 2) (ty := .boolean) (by decide +kernel) rfl (Nat.le_of_ble_eq_true rfl) (lv0 := [(0, .ref h0), (1, .int p1)]) rfl ?_
  intro p e s m args below meth c A Q ls hx hb hts hown hml hK hP hD hS hA hret hl
  have hown : s.vm.findClass RX0 = some m.cls := hown
  have k40 := hts (.fieldLink RX0 40 "CaveYears$Cave" "persons" "I") (List.mem_of_getElem? (i := 1) rfl)
  have iX0 := (fun w h => (List.mem_cons_of_mem _ (List.mem_append_right _ h)) : ∀ w ∈ wsX00, w ∈ wsX0_hasPerson)
  refine lv_iload_n hx hb dX0_hasPerson_0 rfl (lv_at hl 1 rfl) ?_
  refine lv_if_lt (tgt := 22) hx hb dX0_hasPerson_1 (by decide) (fun c1 => ?_) (fun c1 => ?_)
  · have hM := g_pos c1 hM
    refine lv_iconst (v := 0) hx hb dX0_hasPerson_22 (by decide) ?_
    obtain rfl := si1 hM
    exact hret _ _ _ _ _ dX0_hasPerson_23 rfl rfl hP hD hS
  · have hM := g_neg c1 hM
    refine lv_iload_n hx hb dX0_hasPerson_4 rfl (lv_at hl 1 rfl) ?_
    refine lv_aload_n hx hb dX0_hasPerson_5 rfl (lv_at hl 0 rfl) ?_
    refine va_get (D := D) (ci := 0) (v := .int v_persons) (C := RX0) (T := TX0) (N := 13) hx hb hts iX0 hown hK hP 0 rfl rfl 3 (by decide) k40 (fun _ h9 => h9) rfl dX0_hasPerson_6 ?_
    refine lv_icmp_ge (tgt := 22) hx hb dX0_hasPerson_9 (by decide) (fun c9 => ?_) (fun c9 => ?_)
    · have hM := g_pos c9 hM
      refine lv_iconst (v := 0) hx hb dX0_hasPerson_22 (by decide) ?_
      obtain rfl := si1 hM
      exact hret _ _ _ _ _ dX0_hasPerson_23 rfl rfl hP hD hS
    · have hM := g_neg c9 hM
      refine lv_iload_n hx hb dX0_hasPerson_12 rfl (lv_at hl 1 rfl) ?_
      refine lv_bipush (v := 6) hx hb dX0_hasPerson_13 (by decide) ?_
      refine lv_icmp_ge (tgt := 22) hx hb dX0_hasPerson_15 (by decide) (fun c15 => ?_) (fun c15 => ?_)
      · have hM := g_pos c15 hM
        refine lv_iconst (v := 0) hx hb dX0_hasPerson_22 (by decide) ?_
        obtain rfl := si1 hM
        exact hret _ _ _ _ _ dX0_hasPerson_23 rfl rfl hP hD hS
      · have hM := g_neg c15 hM
        refine lv_iconst (v := 1) hx hb dX0_hasPerson_18 (by decide) ?_
        refine lv_goto (tgt := 23) hx hb dX0_hasPerson_19 (by decide) ?_
        obtain rfl := si1 hM
        exact hret _ _ _ _ _ dX0_hasPerson_23 rfl rfl hP hD hS

-- ===== X0_mayFollow mayFollow (II)Z =====
abbrev r0_mayFollow : Room := { frames := 2, cells := 0, slots := 0, locals := 43 }
def f0_mayFollow (N : Nat) (p1 : Int32) (p2 : Int32) (v_parts : Int32) (v_near : Nat → Int32) : Option Int32 :=
  ob1 (f0_hasPart N p1 v_parts) fun r2 => if r2 = (0 : Int32) then (ob1 (f0_hasWay N p1 p2 v_parts v_near) fun r16 => if r16 = (0 : Int32) then (some (0 : Int32)) else (some (1 : Int32))) else (if p1 = p2 then (some (1 : Int32)) else (ob1 (f0_hasWay N p1 p2 v_parts v_near) fun r16 => if r16 = (0 : Int32) then (some (0 : Int32)) else (some (1 : Int32))))
set_option maxHeartbeats 4000000 in
set_option maxRecDepth 100000 in
theorem c0_mayFollow (l : Launch) (D : va_G) (cy : Nat → ClassId) (N : Nat) (h0 h0_near : Nat) (oh0_1 oh0_2 oh0_3 oh0_4 oh0_5 oh0_6 oh0_7 oh0_9 oh0_10 oh0_11 oh0_12 : Value) (p1 : Int32) (p2 : Int32) (v_parts : Int32) (v_near : Nat → Int32) (r : Int32) (hM : f0_mayFollow N p1 p2 v_parts v_near = some r) (sz : Nat) : CTi l yX0_mayFollow wsX0_mayFollow r0_mayFollow [.ref h0, .int p1, .int p2] D cy sz [(h0, .inr (0, [.int v_parts, oh0_1, oh0_2, oh0_3, oh0_4, oh0_5, oh0_6, oh0_7, .ref h0_near, oh0_9, oh0_10, oh0_11, oh0_12])), (h0_near, .inl (cy 2, 7, .inl v_near))] [(h0, .inr (0, [.int v_parts, oh0_1, oh0_2, oh0_3, oh0_4, oh0_5, oh0_6, oh0_7, .ref h0_near, oh0_9, oh0_10, oh0_11, oh0_12])), (h0_near, .inl (cy 2, 7, .inl v_near))] r := by
  unfold f0_mayFollow at hM
  refine ct_oi (cc := cX0_mayFollow) (maxL := 3) (ty := .boolean) (by decide +kernel) rfl (Nat.le_of_ble_eq_true rfl) (lv0 := [(0, .ref h0), (1, .int p1), (2, .int p2)]) rfl ?_
  intro p e s m args below meth c A Q ls hx hb hts hown hml hK hP hD hS hA hret hl
  have hown : s.vm.findClass RX0 = some m.cls := hown
  refine lv_aload_n hx hb dX0_mayFollow_0 rfl (lv_at hl 0 rfl) ?_
  refine lv_iload_n hx hb dX0_mayFollow_1 rfl (lv_at hl 1 rfl) ?_
  obtain ⟨r2, hc2, hM⟩ := ob1_some hM
  refine cl_vi (As := [.int p1]) (rest := []) (ci := 0) (q0 := 0) (wr := [(h0_near, .inl (cy 2, 7, .inl v_near))]) (ws2 := [(h0, .inr (0, [.int v_parts, oh0_1, oh0_2, oh0_3, oh0_4, oh0_5, oh0_6, oh0_7, .ref h0_near, oh0_9, oh0_10, oh0_11, oh0_12])), (h0_near, .inl (cy 2, 7, .inl v_near))]) (isC := [0]) (isR := [1]) (pm := [1, 0]) hx hb hml hown hts (c0_hasPart l D cy N h0 oh0_1 oh0_2 oh0_3 oh0_4 oh0_5 oh0_6 oh0_7 (.ref h0_near) oh0_9 oh0_10 oh0_11 oh0_12 p1 v_parts r2 hc2) (cwV 1 hts gX0_mayFollow_X0_hasPart rfl rfl rfl (by decide +kernel) ⟨Nat.le_of_ble_eq_true rfl, Nat.le_of_ble_eq_true rfl⟩) hK hP hD hS hA rfl rfl rfl rfl rfl (by decide) rfl rfl rfl hl.1 (Nat.le_of_ble_eq_true rfl) dX0_mayFollow_2 ⟨Nat.zero_le _, Nat.zero_le _⟩ rfl rfl (fun H locs hP hD hS => ?_)
  refine lv_if_eq (tgt := 13) hx hb dX0_mayFollow_5 (by decide) (fun c5 => ?_) (fun c5 => ?_)
  · have hM := g_pos c5 hM
    refine lv_aload_n hx hb dX0_mayFollow_13 rfl (lv_at hl 0 rfl) ?_
    refine lv_iload_n hx hb dX0_mayFollow_14 rfl (lv_at hl 1 rfl) ?_
    refine lv_iload_n hx hb dX0_mayFollow_15 rfl (lv_at hl 2 rfl) ?_
    obtain ⟨r16, hc16, hM⟩ := ob1_some hM
    refine cl_vi (As := [.int p1, .int p2]) (rest := []) (ci := 0) (q0 := 0) (wr := []) (ws2 := [(h0, .inr (0, [.int v_parts, oh0_1, oh0_2, oh0_3, oh0_4, oh0_5, oh0_6, oh0_7, .ref h0_near, oh0_9, oh0_10, oh0_11, oh0_12])), (h0_near, .inl (cy 2, 7, .inl v_near))]) (isC := [0, 1]) (isR := []) (pm := [0, 1]) hx hb hml hown hts (c0_hasWay l D cy N h0 h0_near oh0_1 oh0_2 oh0_3 oh0_4 oh0_5 oh0_6 oh0_7 oh0_9 oh0_10 oh0_11 oh0_12 p1 p2 v_parts v_near r16 hc16) (cwV 2 hts gX0_mayFollow_X0_hasWay rfl rfl rfl (by decide +kernel) ⟨Nat.le_of_ble_eq_true rfl, Nat.le_of_ble_eq_true rfl⟩) hK hP hD hS hA rfl rfl rfl rfl rfl (by decide) rfl rfl rfl hl.1 (Nat.le_of_ble_eq_true rfl) dX0_mayFollow_16 ⟨Nat.zero_le _, Nat.zero_le _⟩ rfl rfl (fun H locs hP hD hS => ?_)
    refine lv_if_eq (tgt := 26) hx hb dX0_mayFollow_19 (by decide) (fun c19 => ?_) (fun c19 => ?_)
    · have hM := g_pos c19 hM
      refine lv_iconst (v := 0) hx hb dX0_mayFollow_26 (by decide) ?_
      obtain rfl := si1 hM
      exact hret _ _ _ _ _ dX0_mayFollow_27 rfl rfl hP hD hS
    · have hM := g_neg c19 hM
      refine lv_iconst (v := 1) hx hb dX0_mayFollow_22 (by decide) ?_
      refine lv_goto (tgt := 27) hx hb dX0_mayFollow_23 (by decide) ?_
      obtain rfl := si1 hM
      exact hret _ _ _ _ _ dX0_mayFollow_27 rfl rfl hP hD hS
  · have hM := g_neg c5 hM
    refine lv_iload_n hx hb dX0_mayFollow_8 rfl (lv_at hl 1 rfl) ?_
    refine lv_iload_n hx hb dX0_mayFollow_9 rfl (lv_at hl 2 rfl) ?_
    refine lv_icmp_eq (tgt := 22) hx hb dX0_mayFollow_10 (by decide) (fun c10 => ?_) (fun c10 => ?_)
    · have hM := g_pos c10 hM
      refine lv_iconst (v := 1) hx hb dX0_mayFollow_22 (by decide) ?_
      refine lv_goto (tgt := 27) hx hb dX0_mayFollow_23 (by decide) ?_
      obtain rfl := si1 hM
      exact hret _ _ _ _ _ dX0_mayFollow_27 rfl rfl hP hD hS
    · have hM := g_neg c10 hM
      refine lv_aload_n hx hb dX0_mayFollow_13 rfl (lv_at hl 0 rfl) ?_
      refine lv_iload_n hx hb dX0_mayFollow_14 rfl (lv_at hl 1 rfl) ?_
      refine lv_iload_n hx hb dX0_mayFollow_15 rfl (lv_at hl 2 rfl) ?_
      obtain ⟨r16, hc16, hM⟩ := ob1_some hM
      refine cl_vi (As := [.int p1, .int p2]) (rest := []) (ci := 0) (q0 := 0) (wr := []) (ws2 := [(h0, .inr (0, [.int v_parts, oh0_1, oh0_2, oh0_3, oh0_4, oh0_5, oh0_6, oh0_7, .ref h0_near, oh0_9, oh0_10, oh0_11, oh0_12])), (h0_near, .inl (cy 2, 7, .inl v_near))]) (isC := [0, 1]) (isR := []) (pm := [0, 1]) hx hb hml hown hts (c0_hasWay l D cy N h0 h0_near oh0_1 oh0_2 oh0_3 oh0_4 oh0_5 oh0_6 oh0_7 oh0_9 oh0_10 oh0_11 oh0_12 p1 p2 v_parts v_near r16 hc16) (cwV 2 hts gX0_mayFollow_X0_hasWay rfl rfl rfl (by decide +kernel) ⟨Nat.le_of_ble_eq_true rfl, Nat.le_of_ble_eq_true rfl⟩) hK hP hD hS hA rfl rfl rfl rfl rfl (by decide) rfl rfl rfl hl.1 (Nat.le_of_ble_eq_true rfl) dX0_mayFollow_16 ⟨Nat.zero_le _, Nat.zero_le _⟩ rfl rfl (fun H locs hP hD hS => ?_)
      refine lv_if_eq (tgt := 26) hx hb dX0_mayFollow_19 (by decide) (fun c19 => ?_) (fun c19 => ?_)
      · have hM := g_pos c19 hM
        refine lv_iconst (v := 0) hx hb dX0_mayFollow_26 (by decide) ?_
        obtain rfl := si1 hM
        exact hret _ _ _ _ _ dX0_mayFollow_27 rfl rfl hP hD hS
      · have hM := g_neg c19 hM
        refine lv_iconst (v := 1) hx hb dX0_mayFollow_22 (by decide) ?_
        refine lv_goto (tgt := 27) hx hb dX0_mayFollow_23 (by decide) ?_
        obtain rfl := si1 hM
        exact hret _ _ _ _ _ dX0_mayFollow_27 rfl rfl hP hD hS

-- ===== X0_rateOf rateOf (I)I =====
abbrev r0_rateOf : Room := { frames := 1, cells := 0, slots := 0, locals := 21 }
def f0_rateOf (N : Nat) (p1 : Int32) (v_parts : Int32) (v_rate : Nat → Int32) : Option Int32 :=
  ob1 (f0_hasPart N p1 v_parts) fun r2 => if r2 = (0 : Int32) then (some (0 : Int32)) else (gi p1 7 (some (v_rate p1.toNatClampNeg)))
set_option maxHeartbeats 4000000 in
set_option maxRecDepth 100000 in
theorem c0_rateOf (l : Launch) (D : va_G) (cy : Nat → ClassId) (N : Nat) (h0 h0_rate : Nat) (oh0_1 oh0_2 oh0_3 oh0_4 oh0_5 oh0_6 oh0_8 oh0_9 oh0_10 oh0_11 oh0_12 : Value) (p1 : Int32) (v_parts : Int32) (v_rate : Nat → Int32) (r : Int32) (hM : f0_rateOf N p1 v_parts v_rate = some r) (sz : Nat) : CTi l yX0_rateOf wsX0_rateOf r0_rateOf [.ref h0, .int p1] D cy sz [(h0, .inr (0, [.int v_parts, oh0_1, oh0_2, oh0_3, oh0_4, oh0_5, oh0_6, .ref h0_rate, oh0_8, oh0_9, oh0_10, oh0_11, oh0_12])), (h0_rate, .inl (cy 2, 7, .inl v_rate))] [(h0, .inr (0, [.int v_parts, oh0_1, oh0_2, oh0_3, oh0_4, oh0_5, oh0_6, .ref h0_rate, oh0_8, oh0_9, oh0_10, oh0_11, oh0_12])), (h0_rate, .inl (cy 2, 7, .inl v_rate))] r := by
  unfold f0_rateOf at hM
  refine ct_oi (cc := cX0_rateOf) (maxL := 2) (ty := .int) (by decide +kernel) rfl (Nat.le_of_ble_eq_true rfl) (lv0 := [(0, .ref h0), (1, .int p1)]) rfl ?_
  intro p e s m args below meth c A Q ls hx hb hts hown hml hK hP hD hS hA hret hl
  have hown : s.vm.findClass RX0 = some m.cls := hown
  have k9 := hts (.fieldLink RX0 9 "CaveYears$Cave" "rate" "[I") (List.mem_of_getElem? (i := 1) rfl)
  have iX0 := (fun w h => (List.mem_cons_of_mem _ (List.mem_append_right _ h)) : ∀ w ∈ wsX00, w ∈ wsX0_rateOf)
  refine lv_aload_n hx hb dX0_rateOf_0 rfl (lv_at hl 0 rfl) ?_
  refine lv_iload_n hx hb dX0_rateOf_1 rfl (lv_at hl 1 rfl) ?_
  obtain ⟨r2, hc2, hM⟩ := ob1_some hM
  refine cl_vi (As := [.int p1]) (rest := []) (ci := 0) (q0 := 0) (wr := [(h0_rate, .inl (cy 2, 7, .inl v_rate))]) (ws2 := [(h0, .inr (0, [.int v_parts, oh0_1, oh0_2, oh0_3, oh0_4, oh0_5, oh0_6, .ref h0_rate, oh0_8, oh0_9, oh0_10, oh0_11, oh0_12])), (h0_rate, .inl (cy 2, 7, .inl v_rate))]) (isC := [0]) (isR := [1]) (pm := [1, 0]) hx hb hml hown hts (c0_hasPart l D cy N h0 oh0_1 oh0_2 oh0_3 oh0_4 oh0_5 oh0_6 (.ref h0_rate) oh0_8 oh0_9 oh0_10 oh0_11 oh0_12 p1 v_parts r2 hc2) (cwV 1 hts gX0_rateOf_X0_hasPart rfl rfl rfl (by decide +kernel) ⟨Nat.le_of_ble_eq_true rfl, Nat.le_of_ble_eq_true rfl⟩) hK hP hD hS hA rfl rfl rfl rfl rfl (by decide) rfl rfl rfl hl.1 (Nat.le_of_ble_eq_true rfl) dX0_rateOf_2 ⟨Nat.zero_le _, Nat.zero_le _⟩ rfl rfl (fun H locs hP hD hS => ?_)
  refine lv_if_eq (tgt := 17) hx hb dX0_rateOf_5 (by decide) (fun c5 => ?_) (fun c5 => ?_)
  · have hM := g_pos c5 hM
    refine lv_iconst (v := 0) hx hb dX0_rateOf_17 (by decide) ?_
    obtain rfl := si1 hM
    exact hret _ _ _ _ _ dX0_rateOf_18 rfl rfl hP hD hS
  · have hM := g_neg c5 hM
    refine lv_aload_n hx hb dX0_rateOf_8 rfl (lv_at hl 0 rfl) ?_
    refine va_get (D := D) (ci := 0) (v := .ref h0_rate) (C := RX0) (T := TX0) (N := 13) hx hb hts iX0 hown hK hP 0 rfl rfl 7 (by decide) k9 (fun _ h9 => h9) rfl dX0_rateOf_9 ?_
    refine lv_iload_n hx hb dX0_rateOf_12 rfl (lv_at hl 1 rfl) ?_
    obtain ⟨h13, hM⟩ := gi_some hM
    refine va_iald hx hb hK hP 1 2 rfl rfl h13 dX0_rateOf_13 ?_
    refine lv_goto (tgt := 18) hx hb dX0_rateOf_14 (by decide) ?_
    obtain rfl := si1 hM
    exact hret _ _ _ _ _ dX0_rateOf_18 rfl rfl hP hD hS

-- ===== X0_alikeSet alikeSet (I)I =====
abbrev r0_alikeSet : Room := { frames := 2, cells := 0, slots := 0, locals := 42 }
def f0_alikeSet_L4 (N : Nat) (p1 : Int32) (v_parts : Int32) (v_rate : Nat → Int32) : Nat → Int32 → Int32 → Option Int32
  | 0, _, _ => none
  | n + 1, x2_4, x3_4 => if (7 : Int32) ≤ x3_4 then (some x2_4) else (if x3_4 = p1 then ((f0_alikeSet_L4 N p1 v_parts v_rate n) x2_4 (x3_4 + (1 : Int32))) else (ob1 (f0_hasPart N x3_4 v_parts) fun r17 => if r17 = (0 : Int32) then ((f0_alikeSet_L4 N p1 v_parts v_rate n) x2_4 (x3_4 + (1 : Int32))) else (gi x3_4 7 (ob1 (f0_rateOf N p1 v_parts v_rate) fun r31 => if (v_rate x3_4.toNatClampNeg) = r31 then ((f0_alikeSet_L4 N p1 v_parts v_rate n) (x2_4 ||| ((1 : Int32) <<< (x3_4 &&& 31))) (x3_4 + (1 : Int32))) else ((f0_alikeSet_L4 N p1 v_parts v_rate n) x2_4 (x3_4 + (1 : Int32)))))))
def f0_alikeSet (N : Nat) (p1 : Int32) (v_parts : Int32) (v_rate : Nat → Int32) : Option Int32 :=
  ob1 (f0_alikeSet_L4 N p1 v_parts v_rate N (0 : Int32) (0 : Int32)) fun e2_4 => some e2_4
set_option maxHeartbeats 4000000 in
set_option maxRecDepth 100000 in
theorem c0_alikeSet (l : Launch) (D : va_G) (cy : Nat → ClassId) (N : Nat) (h0 h0_rate : Nat) (oh0_1 oh0_2 oh0_3 oh0_4 oh0_5 oh0_6 oh0_8 oh0_9 oh0_10 oh0_11 oh0_12 : Value) (p1 : Int32) (v_parts : Int32) (v_rate : Nat → Int32) (r : Int32) (hM : f0_alikeSet N p1 v_parts v_rate = some r) (sz : Nat) : CTi l yX0_alikeSet wsX0_alikeSet r0_alikeSet [.ref h0, .int p1] D cy sz [(h0, .inr (0, [.int v_parts, oh0_1, oh0_2, oh0_3, oh0_4, oh0_5, oh0_6, .ref h0_rate, oh0_8, oh0_9, oh0_10, oh0_11, oh0_12])), (h0_rate, .inl (cy 2, 7, .inl v_rate))] [(h0, .inr (0, [.int v_parts, oh0_1, oh0_2, oh0_3, oh0_4, oh0_5, oh0_6, .ref h0_rate, oh0_8, oh0_9, oh0_10, oh0_11, oh0_12])), (h0_rate, .inl (cy 2, 7, .inl v_rate))] r := by
  unfold f0_alikeSet at hM
  refine ct_oi (cc := cX0_alikeSet) (maxL := 4) (ty := .int) (by decide +kernel) rfl (Nat.le_of_ble_eq_true rfl) (lv0 := [(0, .ref h0), (1, .int p1)]) rfl ?_
  intro p e s m args below meth c A Q ls hx hb hts hown hml hK hP hD hS hA hret hl
  have hown : s.vm.findClass RX0 = some m.cls := hown
  have k9 := hts (.fieldLink RX0 9 "CaveYears$Cave" "rate" "[I") (List.mem_of_getElem? (i := 1) rfl)
  have iX0 := (fun w h => (List.mem_cons_of_mem _ (List.mem_append_right _ h)) : ∀ w ∈ wsX00, w ∈ wsX0_alikeSet)
  refine lv_iconst (v := 0) hx hb dX0_alikeSet_0 (by decide) ?_
  refine lv_istore_n (lv' := [(2, .int (0 : Int32)), (0, .ref h0), (1, .int p1)]) hx hb dX0_alikeSet_1 rfl hl (by decide) rfl (fun ls hl => ?_)
  refine lv_iconst (v := 0) hx hb dX0_alikeSet_2 (by decide) ?_
  refine lv_istore_n (lv' := [(3, .int (0 : Int32)), (2, .int (0 : Int32)), (0, .ref h0), (1, .int p1)]) hx hb dX0_alikeSet_3 rfl hl (by decide) rfl (fun ls hl => ?_)
  have L4 : ∀ (n : Nat) (x2_4 : Int32) (x3_4 : Int32) (e2_4 : Int32) (H : Heap) (locs : List Loc) (ls : Array Slot), f0_alikeSet_L4 N p1 v_parts v_rate n x2_4 x3_4 = some e2_4 → va_P D vwCl [(h0, .inr (0, [.int v_parts, oh0_1, oh0_2, oh0_3, oh0_4, oh0_5, oh0_6, .ref h0_rate, oh0_8, oh0_9, oh0_10, oh0_11, oh0_12])), (h0_rate, .inl (cy 2, 7, .inl v_rate))] H → va_D A [(h0, .inr (0, [.int v_parts, oh0_1, oh0_2, oh0_3, oh0_4, oh0_5, oh0_6, .ref h0_rate, oh0_8, oh0_9, oh0_10, oh0_11, oh0_12])), (h0_rate, .inl (cy 2, 7, .inl v_rate))] → va_S A s.heap H locs → lv_has ls 4 [(0, .ref h0), (1, .int p1), (2, .int x2_4), (3, .int x3_4)] → (∀ (H : Heap) (locs : List Loc) (ls : Array Slot), va_P D vwCl [(h0, .inr (0, [.int v_parts, oh0_1, oh0_2, oh0_3, oh0_4, oh0_5, oh0_6, .ref h0_rate, oh0_8, oh0_9, oh0_10, oh0_11, oh0_12])), (h0_rate, .inl (cy 2, 7, .inl v_rate))] H → va_D A [(h0, .inr (0, [.int v_parts, oh0_1, oh0_2, oh0_3, oh0_4, oh0_5, oh0_6, .ref h0_rate, oh0_8, oh0_9, oh0_10, oh0_11, oh0_12])), (h0_rate, .inl (cy 2, 7, .inl v_rate))] → va_S A s.heap H locs → lv_has ls 4 [(2, .int e2_4)] → W p l e r0_alikeSet s m args below meth c H locs 0 0 Q (F0 m 49 ls [])) → W p l e r0_alikeSet s m args below meth c H locs 0 0 Q (F0 m 4 ls []) := by
    intro n
    induction n with
    | zero =>
      intro x2_4 x3_4 e2_4 H locs ls hM
      exact absurd hM (by simp [f0_alikeSet_L4])
    | succ n ih =>
      intro x2_4 x3_4 e2_4 H locs ls hM hP hD hS hl K
      rw [f0_alikeSet_L4] at hM
      refine lv_iload_n hx hb dX0_alikeSet_4 rfl (lv_at hl 3 rfl) ?_
      refine lv_bipush (v := 7) hx hb dX0_alikeSet_5 (by decide) ?_
      refine lv_icmp_ge (tgt := 49) hx hb dX0_alikeSet_7 (by decide) (fun c7 => ?_) (fun c7 => ?_)
      · have hM := g_pos c7 hM
        obtain rfl := si1 hM
        exact K _ _ _ hP hD hS (lv_sub hl [2] rfl)
      · have hM := g_neg c7 hM
        refine lv_iload_n hx hb dX0_alikeSet_10 rfl (lv_at hl 3 rfl) ?_
        refine lv_iload_n hx hb dX0_alikeSet_11 rfl (lv_at hl 1 rfl) ?_
        refine lv_icmp_eq (tgt := 43) hx hb dX0_alikeSet_12 (by decide) (fun c12 => ?_) (fun c12 => ?_)
        · have hM := g_pos c12 hM
          refine lv_iinc (v := x3_4 + (1 : Int32)) (lv' := [(3, .int (x3_4 + (1 : Int32))), (0, .ref h0), (1, .int p1), (2, .int x2_4)]) hx hb dX0_alikeSet_43 hl (k := 3) rfl rfl (by decide) rfl (fun ls hl => ?_)
          refine lv_goto (tgt := 4) hx hb dX0_alikeSet_46 (by decide) ?_
          exact ih x2_4 (x3_4 + (1 : Int32)) e2_4 _ _ _ hM hP hD hS (lv_sub hl [1, 2, 3, 0] rfl) K
        · have hM := g_neg c12 hM
          refine lv_aload_n hx hb dX0_alikeSet_15 rfl (lv_at hl 0 rfl) ?_
          refine lv_iload_n hx hb dX0_alikeSet_16 rfl (lv_at hl 3 rfl) ?_
          obtain ⟨r17, hc17, hM⟩ := ob1_some hM
          refine cl_vi (As := [.int x3_4]) (rest := []) (ci := 0) (q0 := 0) (wr := [(h0_rate, .inl (cy 2, 7, .inl v_rate))]) (ws2 := [(h0, .inr (0, [.int v_parts, oh0_1, oh0_2, oh0_3, oh0_4, oh0_5, oh0_6, .ref h0_rate, oh0_8, oh0_9, oh0_10, oh0_11, oh0_12])), (h0_rate, .inl (cy 2, 7, .inl v_rate))]) (isC := [0]) (isR := [1]) (pm := [1, 0]) hx hb hml hown hts (c0_hasPart l D cy N h0 oh0_1 oh0_2 oh0_3 oh0_4 oh0_5 oh0_6 (.ref h0_rate) oh0_8 oh0_9 oh0_10 oh0_11 oh0_12 x3_4 v_parts r17 hc17) (cwV 1 hts gX0_alikeSet_X0_hasPart rfl rfl rfl (by decide +kernel) ⟨Nat.le_of_ble_eq_true rfl, Nat.le_of_ble_eq_true rfl⟩) hK hP hD hS hA rfl rfl rfl rfl rfl (by decide) rfl rfl rfl hl.1 (Nat.le_of_ble_eq_true rfl) dX0_alikeSet_17 ⟨Nat.zero_le _, Nat.zero_le _⟩ rfl rfl (fun H locs hP hD hS => ?_)
          refine lv_if_eq (tgt := 43) hx hb dX0_alikeSet_20 (by decide) (fun c20 => ?_) (fun c20 => ?_)
          · have hM := g_pos c20 hM
            refine lv_iinc (v := x3_4 + (1 : Int32)) (lv' := [(3, .int (x3_4 + (1 : Int32))), (0, .ref h0), (1, .int p1), (2, .int x2_4)]) hx hb dX0_alikeSet_43 hl (k := 3) rfl rfl (by decide) rfl (fun ls hl => ?_)
            refine lv_goto (tgt := 4) hx hb dX0_alikeSet_46 (by decide) ?_
            exact ih x2_4 (x3_4 + (1 : Int32)) e2_4 _ _ _ hM hP hD hS (lv_sub hl [1, 2, 3, 0] rfl) K
          · have hM := g_neg c20 hM
            refine lv_aload_n hx hb dX0_alikeSet_23 rfl (lv_at hl 0 rfl) ?_
            refine va_get (D := D) (ci := 0) (v := .ref h0_rate) (C := RX0) (T := TX0) (N := 13) hx hb hts iX0 hown hK hP 0 rfl rfl 7 (by decide) k9 (fun _ h9 => h9) rfl dX0_alikeSet_24 ?_
            refine lv_iload_n hx hb dX0_alikeSet_27 rfl (lv_at hl 3 rfl) ?_
            obtain ⟨h28, hM⟩ := gi_some hM
            refine va_iald hx hb hK hP 1 2 rfl rfl h28 dX0_alikeSet_28 ?_
            refine lv_aload_n hx hb dX0_alikeSet_29 rfl (lv_at hl 0 rfl) ?_
            refine lv_iload_n hx hb dX0_alikeSet_30 rfl (lv_at hl 1 rfl) ?_
            obtain ⟨r31, hc31, hM⟩ := ob1_some hM
            refine cl_vi (As := [.int p1]) (rest := [.int (v_rate x3_4.toNatClampNeg)]) (ci := 0) (q0 := 0) (wr := []) (ws2 := [(h0, .inr (0, [.int v_parts, oh0_1, oh0_2, oh0_3, oh0_4, oh0_5, oh0_6, .ref h0_rate, oh0_8, oh0_9, oh0_10, oh0_11, oh0_12])), (h0_rate, .inl (cy 2, 7, .inl v_rate))]) (isC := [0, 1]) (isR := []) (pm := [0, 1]) hx hb hml hown hts (c0_rateOf l D cy N h0 h0_rate oh0_1 oh0_2 oh0_3 oh0_4 oh0_5 oh0_6 oh0_8 oh0_9 oh0_10 oh0_11 oh0_12 p1 v_parts v_rate r31 hc31) (cwV 1 hts gX0_alikeSet_X0_rateOf rfl rfl rfl (by decide +kernel) ⟨Nat.le_of_ble_eq_true rfl, Nat.le_of_ble_eq_true rfl⟩) hK hP hD hS hA rfl rfl rfl rfl rfl (by decide) rfl rfl rfl hl.1 (Nat.le_of_ble_eq_true rfl) dX0_alikeSet_31 ⟨Nat.zero_le _, Nat.zero_le _⟩ rfl rfl (fun H locs hP hD hS => ?_)
            refine lv_icmp_ne (tgt := 43) hx hb dX0_alikeSet_34 (by decide) (fun c34 => ?_) (fun c34 => ?_)
            · have hM := g_neg c34 hM
              refine lv_iinc (v := x3_4 + (1 : Int32)) (lv' := [(3, .int (x3_4 + (1 : Int32))), (0, .ref h0), (1, .int p1), (2, .int x2_4)]) hx hb dX0_alikeSet_43 hl (k := 3) rfl rfl (by decide) rfl (fun ls hl => ?_)
              refine lv_goto (tgt := 4) hx hb dX0_alikeSet_46 (by decide) ?_
              exact ih x2_4 (x3_4 + (1 : Int32)) e2_4 _ _ _ hM hP hD hS (lv_sub hl [1, 2, 3, 0] rfl) K
            · have hM := g_pos c34 hM
              refine lv_iload_n hx hb dX0_alikeSet_37 rfl (lv_at hl 2 rfl) ?_
              refine lv_iconst (v := 1) hx hb dX0_alikeSet_38 (by decide) ?_
              refine lv_iload_n hx hb dX0_alikeSet_39 rfl (lv_at hl 3 rfl) ?_
              refine lv_ishl hx hb dX0_alikeSet_40 ?_
              refine lv_ior hx hb dX0_alikeSet_41 ?_
              refine lv_istore_n (lv' := [(2, .int (x2_4 ||| ((1 : Int32) <<< (x3_4 &&& 31)))), (0, .ref h0), (1, .int p1), (3, .int x3_4)]) hx hb dX0_alikeSet_42 rfl hl (by decide) rfl (fun ls hl => ?_)
              refine lv_iinc (v := x3_4 + (1 : Int32)) (lv' := [(3, .int (x3_4 + (1 : Int32))), (2, .int (x2_4 ||| ((1 : Int32) <<< (x3_4 &&& 31)))), (0, .ref h0), (1, .int p1)]) hx hb dX0_alikeSet_43 hl (k := 3) rfl rfl (by decide) rfl (fun ls hl => ?_)
              refine lv_goto (tgt := 4) hx hb dX0_alikeSet_46 (by decide) ?_
              exact ih (x2_4 ||| ((1 : Int32) <<< (x3_4 &&& 31))) (x3_4 + (1 : Int32)) e2_4 _ _ _ hM hP hD hS (lv_sub hl [2, 3, 1, 0] rfl) K
  obtain ⟨e2_4, hL4, hM⟩ := ob1_some hM
  refine L4 N (0 : Int32) (0 : Int32) e2_4 _ _ _ hL4 hP hD hS (lv_sub hl [2, 3, 1, 0] rfl) ?_
  intro H locs ls hP hD hS hl
  refine lv_iload_n hx hb dX0_alikeSet_49 rfl (lv_at hl 0 rfl) ?_
  obtain rfl := si1 hM
  exact hret _ _ _ _ _ dX0_alikeSet_50 rfl rfl hP hD hS

-- ===== X0_lastWinterEnd lastWinterEnd (I)I =====
abbrev r0_lastWinterEnd : Room := { frames := 1, cells := 0, slots := 0, locals := 24 }
def f0_lastWinterEnd_L4 (N : Nat) (p1 : Int32) (v_winters : Int32) (v_winterStart : Nat → Int32) (v_winterEnd : Nat → Int32) : Nat → Int32 → Int32 → Option Int32
  | 0, _, _ => none
  | n + 1, x2_4, x3_4 => if v_winters ≤ x3_4 then (some x2_4) else (if (5 : Int32) ≤ x3_4 then (some x2_4) else (gi x3_4 5 (if (v_winterStart x3_4.toNatClampNeg) < p1 then ((f0_lastWinterEnd_L4 N p1 v_winters v_winterStart v_winterEnd n) x2_4 (x3_4 + (1 : Int32))) else (gi x3_4 5 ((f0_lastWinterEnd_L4 N p1 v_winters v_winterStart v_winterEnd n) (if x2_4 < (v_winterEnd x3_4.toNatClampNeg) then (v_winterEnd x3_4.toNatClampNeg) else x2_4) (x3_4 + (1 : Int32)))))))
def f0_lastWinterEnd (N : Nat) (p1 : Int32) (v_winters : Int32) (v_winterStart : Nat → Int32) (v_winterEnd : Nat → Int32) : Option Int32 :=
  ob1 (f0_lastWinterEnd_L4 N p1 v_winters v_winterStart v_winterEnd N (-1 : Int32) (0 : Int32)) fun e2_4 => some e2_4
set_option maxHeartbeats 4000000 in
set_option maxRecDepth 100000 in
theorem c0_lastWinterEnd (l : Launch) (D : va_G) (cy : Nat → ClassId) (N : Nat) (h0 h0_winterStart h0_winterEnd : Nat) (oh0_0 oh0_1 oh0_2 oh0_3 oh0_4 oh0_5 oh0_7 oh0_8 oh0_9 oh0_10 : Value) (p1 : Int32) (v_winters : Int32) (v_winterStart : Nat → Int32) (v_winterEnd : Nat → Int32) (r : Int32) (hM : f0_lastWinterEnd N p1 v_winters v_winterStart v_winterEnd = some r) (sz : Nat) : CTi l yX0_lastWinterEnd wsX0_lastWinterEnd r0_lastWinterEnd [.ref h0, .int p1] D cy sz [(h0, .inr (0, [oh0_0, oh0_1, oh0_2, oh0_3, oh0_4, oh0_5, .int v_winters, oh0_7, oh0_8, oh0_9, oh0_10, .ref h0_winterStart, .ref h0_winterEnd])), (h0_winterStart, .inl (cy 2, 5, .inl v_winterStart)), (h0_winterEnd, .inl (cy 2, 5, .inl v_winterEnd))] [(h0, .inr (0, [oh0_0, oh0_1, oh0_2, oh0_3, oh0_4, oh0_5, .int v_winters, oh0_7, oh0_8, oh0_9, oh0_10, .ref h0_winterStart, .ref h0_winterEnd])), (h0_winterStart, .inl (cy 2, 5, .inl v_winterStart)), (h0_winterEnd, .inl (cy 2, 5, .inl v_winterEnd))] r := by
  unfold f0_lastWinterEnd at hM
  refine ct_oi (cc := cX0_lastWinterEnd) (maxL := 4) (ty := .int) (by decide +kernel) rfl (Nat.le_of_ble_eq_true rfl) (lv0 := [(0, .ref h0), (1, .int p1)]) rfl ?_
  intro p e s m args below meth c A Q ls hx hb hts hown hml hK hP hD hS hA hret hl
  have hown : s.vm.findClass RX0 = some m.cls := hown
  have k50 := hts (.fieldLink RX0 50 "CaveYears$Cave" "winters" "I") (List.mem_of_getElem? (i := 1) rfl)
  have iX0 := (fun w h => (List.mem_cons_of_mem _ (List.mem_append_right _ h)) : ∀ w ∈ wsX00, w ∈ wsX0_lastWinterEnd)
  have k24 := hts (.fieldLink RX0 24 "CaveYears$Cave" "winterStart" "[I") (List.mem_of_getElem? (i := 2) rfl)
  have k27 := hts (.fieldLink RX0 27 "CaveYears$Cave" "winterEnd" "[I") (List.mem_of_getElem? (i := 3) rfl)
  have k65 := hts (.methodLink RX0 65 Lib.Math.max.name) (List.mem_of_getElem? (i := 4) rfl)
  have ks65 := hts (.static Lib.Math.max.name) (List.mem_of_getElem? (i := 5) rfl)
  have kmath := hts (.initialized "java/lang/Math") (List.mem_of_getElem? (i := 6) rfl)
  have kc65 := hts (.code Lib.Math.max.name Lib.Math.max.code 2 (some .int)) (List.mem_of_getElem? (i := 7) rfl)
  refine lv_iconst (v := -1) hx hb dX0_lastWinterEnd_0 (by decide) ?_
  refine lv_istore_n (lv' := [(2, .int (-1 : Int32)), (0, .ref h0), (1, .int p1)]) hx hb dX0_lastWinterEnd_1 rfl hl (by decide) rfl (fun ls hl => ?_)
  refine lv_iconst (v := 0) hx hb dX0_lastWinterEnd_2 (by decide) ?_
  refine lv_istore_n (lv' := [(3, .int (0 : Int32)), (2, .int (-1 : Int32)), (0, .ref h0), (1, .int p1)]) hx hb dX0_lastWinterEnd_3 rfl hl (by decide) rfl (fun ls hl => ?_)
  have L4 : ∀ (n : Nat) (x2_4 : Int32) (x3_4 : Int32) (e2_4 : Int32) (H : Heap) (locs : List Loc) (ls : Array Slot), f0_lastWinterEnd_L4 N p1 v_winters v_winterStart v_winterEnd n x2_4 x3_4 = some e2_4 → va_P D vwCl [(h0, .inr (0, [oh0_0, oh0_1, oh0_2, oh0_3, oh0_4, oh0_5, .int v_winters, oh0_7, oh0_8, oh0_9, oh0_10, .ref h0_winterStart, .ref h0_winterEnd])), (h0_winterStart, .inl (cy 2, 5, .inl v_winterStart)), (h0_winterEnd, .inl (cy 2, 5, .inl v_winterEnd))] H → va_D A [(h0, .inr (0, [oh0_0, oh0_1, oh0_2, oh0_3, oh0_4, oh0_5, .int v_winters, oh0_7, oh0_8, oh0_9, oh0_10, .ref h0_winterStart, .ref h0_winterEnd])), (h0_winterStart, .inl (cy 2, 5, .inl v_winterStart)), (h0_winterEnd, .inl (cy 2, 5, .inl v_winterEnd))] → va_S A s.heap H locs → lv_has ls 4 [(0, .ref h0), (1, .int p1), (2, .int x2_4), (3, .int x3_4)] → (∀ (H : Heap) (locs : List Loc) (ls : Array Slot), va_P D vwCl [(h0, .inr (0, [oh0_0, oh0_1, oh0_2, oh0_3, oh0_4, oh0_5, .int v_winters, oh0_7, oh0_8, oh0_9, oh0_10, .ref h0_winterStart, .ref h0_winterEnd])), (h0_winterStart, .inl (cy 2, 5, .inl v_winterStart)), (h0_winterEnd, .inl (cy 2, 5, .inl v_winterEnd))] H → va_D A [(h0, .inr (0, [oh0_0, oh0_1, oh0_2, oh0_3, oh0_4, oh0_5, .int v_winters, oh0_7, oh0_8, oh0_9, oh0_10, .ref h0_winterStart, .ref h0_winterEnd])), (h0_winterStart, .inl (cy 2, 5, .inl v_winterStart)), (h0_winterEnd, .inl (cy 2, 5, .inl v_winterEnd))] → va_S A s.heap H locs → lv_has ls 4 [(2, .int e2_4)] → W p l e r0_lastWinterEnd s m args below meth c H locs 0 0 Q (F0 m 44 ls [])) → W p l e r0_lastWinterEnd s m args below meth c H locs 0 0 Q (F0 m 4 ls []) := by
    intro n
    induction n with
    | zero =>
      intro x2_4 x3_4 e2_4 H locs ls hM
      exact absurd hM (by simp [f0_lastWinterEnd_L4])
    | succ n ih =>
      intro x2_4 x3_4 e2_4 H locs ls hM hP hD hS hl K
      rw [f0_lastWinterEnd_L4] at hM
      refine lv_iload_n hx hb dX0_lastWinterEnd_4 rfl (lv_at hl 3 rfl) ?_
      refine lv_aload_n hx hb dX0_lastWinterEnd_5 rfl (lv_at hl 0 rfl) ?_
      refine va_get (D := D) (ci := 0) (v := .int v_winters) (C := RX0) (T := TX0) (N := 13) hx hb hts iX0 hown hK hP 0 rfl rfl 6 (by decide) k50 (fun _ h9 => h9) rfl dX0_lastWinterEnd_6 ?_
      refine lv_icmp_ge (tgt := 44) hx hb dX0_lastWinterEnd_9 (by decide) (fun c9 => ?_) (fun c9 => ?_)
      · have hM := g_pos c9 hM
        obtain rfl := si1 hM
        exact K _ _ _ hP hD hS (lv_sub hl [2] rfl)
      · have hM := g_neg c9 hM
        refine lv_iload_n hx hb dX0_lastWinterEnd_12 rfl (lv_at hl 3 rfl) ?_
        refine lv_iconst (v := 5) hx hb dX0_lastWinterEnd_13 (by decide) ?_
        refine lv_icmp_ge (tgt := 44) hx hb dX0_lastWinterEnd_14 (by decide) (fun c14 => ?_) (fun c14 => ?_)
        · have hM := g_pos c14 hM
          obtain rfl := si1 hM
          exact K _ _ _ hP hD hS (lv_sub hl [2] rfl)
        · have hM := g_neg c14 hM
          refine lv_aload_n hx hb dX0_lastWinterEnd_17 rfl (lv_at hl 0 rfl) ?_
          refine va_get (D := D) (ci := 0) (v := .ref h0_winterStart) (C := RX0) (T := TX0) (N := 13) hx hb hts iX0 hown hK hP 0 rfl rfl 11 (by decide) k24 (fun _ h9 => h9) rfl dX0_lastWinterEnd_18 ?_
          refine lv_iload_n hx hb dX0_lastWinterEnd_21 rfl (lv_at hl 3 rfl) ?_
          obtain ⟨h22, hM⟩ := gi_some hM
          refine va_iald hx hb hK hP 1 2 rfl rfl h22 dX0_lastWinterEnd_22 ?_
          refine lv_iload_n hx hb dX0_lastWinterEnd_23 rfl (lv_at hl 1 rfl) ?_
          refine lv_icmp_lt (tgt := 38) hx hb dX0_lastWinterEnd_24 (by decide) (fun c24 => ?_) (fun c24 => ?_)
          · have hM := g_pos c24 hM
            refine lv_iinc (v := x3_4 + (1 : Int32)) (lv' := [(3, .int (x3_4 + (1 : Int32))), (0, .ref h0), (1, .int p1), (2, .int x2_4)]) hx hb dX0_lastWinterEnd_38 hl (k := 3) rfl rfl (by decide) rfl (fun ls hl => ?_)
            refine lv_goto (tgt := 4) hx hb dX0_lastWinterEnd_41 (by decide) ?_
            exact ih x2_4 (x3_4 + (1 : Int32)) e2_4 _ _ _ hM hP hD hS (lv_sub hl [1, 2, 3, 0] rfl) K
          · have hM := g_neg c24 hM
            refine lv_iload_n hx hb dX0_lastWinterEnd_27 rfl (lv_at hl 2 rfl) ?_
            refine lv_aload_n hx hb dX0_lastWinterEnd_28 rfl (lv_at hl 0 rfl) ?_
            refine va_get (D := D) (ci := 0) (v := .ref h0_winterEnd) (C := RX0) (T := TX0) (N := 13) hx hb hts iX0 hown hK hP 0 rfl rfl 12 (by decide) k27 (fun _ h9 => h9) rfl dX0_lastWinterEnd_29 ?_
            refine lv_iload_n hx hb dX0_lastWinterEnd_32 rfl (lv_at hl 3 rfl) ?_
            obtain ⟨h33, hM⟩ := gi_some hM
            refine va_iald hx hb hK hP 2 2 rfl rfl h33 dX0_lastWinterEnd_33 ?_
            refine va_mmax hx hb (hml.trans hl.1.symm) hown k65 ks65 kmath kc65 (Nat.le_of_ble_eq_true rfl) (Nat.le_of_ble_eq_true rfl) (Nat.zero_le _) (Nat.zero_le _) dX0_lastWinterEnd_34 ?_
            refine lv_istore_n (lv' := [(2, .int (if x2_4 < (v_winterEnd x3_4.toNatClampNeg) then (v_winterEnd x3_4.toNatClampNeg) else x2_4)), (0, .ref h0), (1, .int p1), (3, .int x3_4)]) hx hb dX0_lastWinterEnd_37 rfl hl (by decide) rfl (fun ls hl => ?_)
            refine lv_iinc (v := x3_4 + (1 : Int32)) (lv' := [(3, .int (x3_4 + (1 : Int32))), (2, .int (if x2_4 < (v_winterEnd x3_4.toNatClampNeg) then (v_winterEnd x3_4.toNatClampNeg) else x2_4)), (0, .ref h0), (1, .int p1)]) hx hb dX0_lastWinterEnd_38 hl (k := 3) rfl rfl (by decide) rfl (fun ls hl => ?_)
            refine lv_goto (tgt := 4) hx hb dX0_lastWinterEnd_41 (by decide) ?_
            exact ih (if x2_4 < (v_winterEnd x3_4.toNatClampNeg) then (v_winterEnd x3_4.toNatClampNeg) else x2_4) (x3_4 + (1 : Int32)) e2_4 _ _ _ hM hP hD hS (lv_sub hl [2, 3, 1, 0] rfl) K
  obtain ⟨e2_4, hL4, hM⟩ := ob1_some hM
  refine L4 N (-1 : Int32) (0 : Int32) e2_4 _ _ _ hL4 hP hD hS (lv_sub hl [2, 3, 1, 0] rfl) ?_
  intro H locs ls hP hD hS hl
  refine lv_iload_n hx hb dX0_lastWinterEnd_44 rfl (lv_at hl 0 rfl) ?_
  obtain rfl := si1 hM
  exact hret _ _ _ _ _ dX0_lastWinterEnd_45 rfl rfl hP hD hS

-- ===== X0_clear clear ()V =====
abbrev r0_clear : Room := { frames := 0, cells := 0, slots := 0, locals := 0 }
def f0_clear (N : Nat) (v_parts : Int32) (v_mouths : Int32) (v_ways : Int32) (v_persons : Int32) (v_interest : Int32) (v_interestTold : Int32) (v_winters : Int32) : Option (Int32 × Int32 × Int32 × Int32 × Int32 × Int32 × Int32) :=
  some ((0 : Int32), (0 : Int32), (0 : Int32), (0 : Int32), (0 : Int32), (0 : Int32), (0 : Int32))
set_option maxHeartbeats 4000000 in
set_option maxRecDepth 100000 in
theorem c0_clear (l : Launch) (D : va_G) (cy : Nat → ClassId) (N : Nat) (h0 : Nat) (oh0_7 oh0_8 oh0_9 oh0_10 oh0_11 oh0_12 : Value) (v_parts : Int32) (v_mouths : Int32) (v_ways : Int32) (v_persons : Int32) (v_interest : Int32) (v_interestTold : Int32) (v_winters : Int32) (nv_parts : Int32) (nv_mouths : Int32) (nv_ways : Int32) (nv_persons : Int32) (nv_interest : Int32) (nv_interestTold : Int32) (nv_winters : Int32) (hM : f0_clear N v_parts v_mouths v_ways v_persons v_interest v_interestTold v_winters = some (nv_parts, nv_mouths, nv_ways, nv_persons, nv_interest, nv_interestTold, nv_winters)) (sz : Nat) : CTv l yX0_clear wsX0_clear r0_clear [.ref h0] D cy sz [(h0, .inr (0, [.int v_parts, .int v_mouths, .int v_ways, .int v_persons, .int v_interest, .int v_interestTold, .int v_winters, oh0_7, oh0_8, oh0_9, oh0_10, oh0_11, oh0_12]))] [(h0, .inr (0, [.int nv_parts, .int nv_mouths, .int nv_ways, .int nv_persons, .int nv_interest, .int nv_interestTold, .int nv_winters, oh0_7, oh0_8, oh0_9, oh0_10, oh0_11, oh0_12]))] := by
  unfold f0_clear at hM
  refine ct_ov (cc := cX0_clear) (maxL := 1)  (by decide +kernel) rfl (Nat.le_of_ble_eq_true rfl) (lv0 := [(0, .ref h0)]) rfl ?_
  intro p e s m args below meth c A Q ls hx hb hts hown hml hK hP hD hS hA hret hl
  have hown : s.vm.findClass RX0 = some m.cls := hown
  have k30 := hts (.fieldLink RX0 30 "CaveYears$Cave" "parts" "I") (List.mem_of_getElem? (i := 1) rfl)
  have iX0 := (fun w h => (List.mem_cons_of_mem _ (List.mem_append_right _ h)) : ∀ w ∈ wsX00, w ∈ wsX0_clear)
  have k34 := hts (.fieldLink RX0 34 "CaveYears$Cave" "mouths" "I") (List.mem_of_getElem? (i := 2) rfl)
  have k37 := hts (.fieldLink RX0 37 "CaveYears$Cave" "ways" "I") (List.mem_of_getElem? (i := 3) rfl)
  have k40 := hts (.fieldLink RX0 40 "CaveYears$Cave" "persons" "I") (List.mem_of_getElem? (i := 4) rfl)
  have k43 := hts (.fieldLink RX0 43 "CaveYears$Cave" "interest" "I") (List.mem_of_getElem? (i := 5) rfl)
  have k46 := hts (.fieldLink RX0 46 "CaveYears$Cave" "interestTold" "Z") (List.mem_of_getElem? (i := 6) rfl)
  have k50 := hts (.fieldLink RX0 50 "CaveYears$Cave" "winters" "I") (List.mem_of_getElem? (i := 7) rfl)
  refine lv_aload_n hx hb dX0_clear_0 rfl (lv_at hl 0 rfl) ?_
  refine lv_iconst (v := 0) hx hb dX0_clear_1 (by decide) ?_
  refine va_put (D := D) (ci := 0) (v := .int (0 : Int32)) (ty := .int) (C := RX0) (T := TX0) (N := 13) hx hb hts iX0 tyX0 tyX0_ok nmX0 hown hK hP hD hS 0 rfl rfl 0 (by decide) k30 (fun _ h9 => h9) rfl (by decide +kernel) rfl rfl (Nat.le_of_ble_eq_true rfl) dX0_clear_2 (fun H locs hP hD hS => ?_)
  have hP : va_P D vwCl [(h0, .inr (0, [.int (0 : Int32), .int v_mouths, .int v_ways, .int v_persons, .int v_interest, .int v_interestTold, .int v_winters, oh0_7, oh0_8, oh0_9, oh0_10, oh0_11, oh0_12]))] H := hP
  have hD : va_D A [(h0, .inr (0, [.int (0 : Int32), .int v_mouths, .int v_ways, .int v_persons, .int v_interest, .int v_interestTold, .int v_winters, oh0_7, oh0_8, oh0_9, oh0_10, oh0_11, oh0_12]))] := hD
  refine lv_aload_n hx hb dX0_clear_5 rfl (lv_at hl 0 rfl) ?_
  refine lv_iconst (v := 0) hx hb dX0_clear_6 (by decide) ?_
  refine va_put (D := D) (ci := 0) (v := .int (0 : Int32)) (ty := .int) (C := RX0) (T := TX0) (N := 13) hx hb hts iX0 tyX0 tyX0_ok nmX0 hown hK hP hD hS 0 rfl rfl 1 (by decide) k34 (fun _ h9 => h9) rfl (by decide +kernel) rfl rfl (Nat.le_of_ble_eq_true rfl) dX0_clear_7 (fun H locs hP hD hS => ?_)
  have hP : va_P D vwCl [(h0, .inr (0, [.int (0 : Int32), .int (0 : Int32), .int v_ways, .int v_persons, .int v_interest, .int v_interestTold, .int v_winters, oh0_7, oh0_8, oh0_9, oh0_10, oh0_11, oh0_12]))] H := hP
  have hD : va_D A [(h0, .inr (0, [.int (0 : Int32), .int (0 : Int32), .int v_ways, .int v_persons, .int v_interest, .int v_interestTold, .int v_winters, oh0_7, oh0_8, oh0_9, oh0_10, oh0_11, oh0_12]))] := hD
  refine lv_aload_n hx hb dX0_clear_10 rfl (lv_at hl 0 rfl) ?_
  refine lv_iconst (v := 0) hx hb dX0_clear_11 (by decide) ?_
  refine va_put (D := D) (ci := 0) (v := .int (0 : Int32)) (ty := .int) (C := RX0) (T := TX0) (N := 13) hx hb hts iX0 tyX0 tyX0_ok nmX0 hown hK hP hD hS 0 rfl rfl 2 (by decide) k37 (fun _ h9 => h9) rfl (by decide +kernel) rfl rfl (Nat.le_of_ble_eq_true rfl) dX0_clear_12 (fun H locs hP hD hS => ?_)
  have hP : va_P D vwCl [(h0, .inr (0, [.int (0 : Int32), .int (0 : Int32), .int (0 : Int32), .int v_persons, .int v_interest, .int v_interestTold, .int v_winters, oh0_7, oh0_8, oh0_9, oh0_10, oh0_11, oh0_12]))] H := hP
  have hD : va_D A [(h0, .inr (0, [.int (0 : Int32), .int (0 : Int32), .int (0 : Int32), .int v_persons, .int v_interest, .int v_interestTold, .int v_winters, oh0_7, oh0_8, oh0_9, oh0_10, oh0_11, oh0_12]))] := hD
  refine lv_aload_n hx hb dX0_clear_15 rfl (lv_at hl 0 rfl) ?_
  refine lv_iconst (v := 0) hx hb dX0_clear_16 (by decide) ?_
  refine va_put (D := D) (ci := 0) (v := .int (0 : Int32)) (ty := .int) (C := RX0) (T := TX0) (N := 13) hx hb hts iX0 tyX0 tyX0_ok nmX0 hown hK hP hD hS 0 rfl rfl 3 (by decide) k40 (fun _ h9 => h9) rfl (by decide +kernel) rfl rfl (Nat.le_of_ble_eq_true rfl) dX0_clear_17 (fun H locs hP hD hS => ?_)
  have hP : va_P D vwCl [(h0, .inr (0, [.int (0 : Int32), .int (0 : Int32), .int (0 : Int32), .int (0 : Int32), .int v_interest, .int v_interestTold, .int v_winters, oh0_7, oh0_8, oh0_9, oh0_10, oh0_11, oh0_12]))] H := hP
  have hD : va_D A [(h0, .inr (0, [.int (0 : Int32), .int (0 : Int32), .int (0 : Int32), .int (0 : Int32), .int v_interest, .int v_interestTold, .int v_winters, oh0_7, oh0_8, oh0_9, oh0_10, oh0_11, oh0_12]))] := hD
  refine lv_aload_n hx hb dX0_clear_20 rfl (lv_at hl 0 rfl) ?_
  refine lv_iconst (v := 0) hx hb dX0_clear_21 (by decide) ?_
  refine va_put (D := D) (ci := 0) (v := .int (0 : Int32)) (ty := .int) (C := RX0) (T := TX0) (N := 13) hx hb hts iX0 tyX0 tyX0_ok nmX0 hown hK hP hD hS 0 rfl rfl 4 (by decide) k43 (fun _ h9 => h9) rfl (by decide +kernel) rfl rfl (Nat.le_of_ble_eq_true rfl) dX0_clear_22 (fun H locs hP hD hS => ?_)
  have hP : va_P D vwCl [(h0, .inr (0, [.int (0 : Int32), .int (0 : Int32), .int (0 : Int32), .int (0 : Int32), .int (0 : Int32), .int v_interestTold, .int v_winters, oh0_7, oh0_8, oh0_9, oh0_10, oh0_11, oh0_12]))] H := hP
  have hD : va_D A [(h0, .inr (0, [.int (0 : Int32), .int (0 : Int32), .int (0 : Int32), .int (0 : Int32), .int (0 : Int32), .int v_interestTold, .int v_winters, oh0_7, oh0_8, oh0_9, oh0_10, oh0_11, oh0_12]))] := hD
  refine lv_aload_n hx hb dX0_clear_25 rfl (lv_at hl 0 rfl) ?_
  refine lv_iconst (v := 0) hx hb dX0_clear_26 (by decide) ?_
  refine va_put (D := D) (ci := 0) (v := .int (0 : Int32)) (ty := .boolean) (C := RX0) (T := TX0) (N := 13) hx hb hts iX0 tyX0 tyX0_ok nmX0 hown hK hP hD hS 0 rfl rfl 5 (by decide) k46 (fun _ h9 => h9) rfl (by decide +kernel) rfl rfl (Nat.le_of_ble_eq_true rfl) dX0_clear_27 (fun H locs hP hD hS => ?_)
  have hP : va_P D vwCl [(h0, .inr (0, [.int (0 : Int32), .int (0 : Int32), .int (0 : Int32), .int (0 : Int32), .int (0 : Int32), .int (0 : Int32), .int v_winters, oh0_7, oh0_8, oh0_9, oh0_10, oh0_11, oh0_12]))] H := hP
  have hD : va_D A [(h0, .inr (0, [.int (0 : Int32), .int (0 : Int32), .int (0 : Int32), .int (0 : Int32), .int (0 : Int32), .int (0 : Int32), .int v_winters, oh0_7, oh0_8, oh0_9, oh0_10, oh0_11, oh0_12]))] := hD
  refine lv_aload_n hx hb dX0_clear_30 rfl (lv_at hl 0 rfl) ?_
  refine lv_iconst (v := 0) hx hb dX0_clear_31 (by decide) ?_
  refine va_put (D := D) (ci := 0) (v := .int (0 : Int32)) (ty := .int) (C := RX0) (T := TX0) (N := 13) hx hb hts iX0 tyX0 tyX0_ok nmX0 hown hK hP hD hS 0 rfl rfl 6 (by decide) k50 (fun _ h9 => h9) rfl (by decide +kernel) rfl rfl (Nat.le_of_ble_eq_true rfl) dX0_clear_32 (fun H locs hP hD hS => ?_)
  have hP : va_P D vwCl [(h0, .inr (0, [.int (0 : Int32), .int (0 : Int32), .int (0 : Int32), .int (0 : Int32), .int (0 : Int32), .int (0 : Int32), .int (0 : Int32), oh0_7, oh0_8, oh0_9, oh0_10, oh0_11, oh0_12]))] H := hP
  have hD : va_D A [(h0, .inr (0, [.int (0 : Int32), .int (0 : Int32), .int (0 : Int32), .int (0 : Int32), .int (0 : Int32), .int (0 : Int32), .int (0 : Int32), oh0_7, oh0_8, oh0_9, oh0_10, oh0_11, oh0_12]))] := hD
  obtain ⟨rfl, rfl, rfl, rfl, rfl, rfl, rfl⟩ := si7 hM
  exact hret _ _ _ _ dX0_clear_35 hP hD hS

-- ===== X0_addPart addPart (II)V =====
abbrev r0_addPart : Room := { frames := 0, cells := 0, slots := 0, locals := 0 }
def f0_addPart (N : Nat) (p1 : Int32) (p2 : Int32) (v_parts : Int32) (v_rate : Nat → Int32) (v_near : Nat → Int32) : Option (Int32 × (Nat → Int32) × (Nat → Int32)) :=
  if v_parts < (0 : Int32) then (some (v_parts, v_rate, v_near)) else (if (7 : Int32) ≤ v_parts then (some (v_parts, v_rate, v_near)) else (if p2 ≤ (0 : Int32) then (some (v_parts, v_rate, v_near)) else (gz p2 (gi v_parts 7 (gi v_parts 7 (some ((v_parts + (1 : Int32)), (upd v_rate v_parts.toNatClampNeg (((60 : Int32) * p1) / p2)), (upd v_near v_parts.toNatClampNeg (0 : Int32)))))))))
set_option maxHeartbeats 4000000 in
set_option maxRecDepth 100000 in
theorem c0_addPart (l : Launch) (D : va_G) (cy : Nat → ClassId) (N : Nat) (h0 h0_rate h0_near : Nat) (oh0_1 oh0_2 oh0_3 oh0_4 oh0_5 oh0_6 oh0_9 oh0_10 oh0_11 oh0_12 : Value) (p1 : Int32) (p2 : Int32) (v_parts : Int32) (v_rate : Nat → Int32) (v_near : Nat → Int32) (nv_parts : Int32) (nv_rate : Nat → Int32) (nv_near : Nat → Int32) (hM : f0_addPart N p1 p2 v_parts v_rate v_near = some (nv_parts, nv_rate, nv_near)) (sz : Nat) : CTv l yX0_addPart wsX0_addPart r0_addPart [.ref h0, .int p1, .int p2] D cy sz [(h0, .inr (0, [.int v_parts, oh0_1, oh0_2, oh0_3, oh0_4, oh0_5, oh0_6, .ref h0_rate, .ref h0_near, oh0_9, oh0_10, oh0_11, oh0_12])), (h0_rate, .inl (cy 2, 7, .inl v_rate)), (h0_near, .inl (cy 2, 7, .inl v_near))] [(h0, .inr (0, [.int nv_parts, oh0_1, oh0_2, oh0_3, oh0_4, oh0_5, oh0_6, .ref h0_rate, .ref h0_near, oh0_9, oh0_10, oh0_11, oh0_12])), (h0_rate, .inl (cy 2, 7, .inl nv_rate)), (h0_near, .inl (cy 2, 7, .inl nv_near))] := by
  unfold f0_addPart at hM
  refine ct_ov (cc := cX0_addPart) (maxL := 3)  (by decide +kernel) rfl (Nat.le_of_ble_eq_true rfl) (lv0 := [(0, .ref h0), (1, .int p1), (2, .int p2)]) rfl ?_
  intro p e s m args below meth c A Q ls hx hb hts hown hml hK hP hD hS hA hret hl
  have hown : s.vm.findClass RX0 = some m.cls := hown
  have k30 := hts (.fieldLink RX0 30 "CaveYears$Cave" "parts" "I") (List.mem_of_getElem? (i := 1) rfl)
  have iX0 := (fun w h => (List.mem_cons_of_mem _ (List.mem_append_right _ h)) : ∀ w ∈ wsX00, w ∈ wsX0_addPart)
  have k9 := hts (.fieldLink RX0 9 "CaveYears$Cave" "rate" "[I") (List.mem_of_getElem? (i := 2) rfl)
  have k15 := hts (.fieldLink RX0 15 "CaveYears$Cave" "near" "[I") (List.mem_of_getElem? (i := 3) rfl)
  refine lv_aload_n hx hb dX0_addPart_0 rfl (lv_at hl 0 rfl) ?_
  refine va_get (D := D) (ci := 0) (v := .int v_parts) (C := RX0) (T := TX0) (N := 13) hx hb hts iX0 hown hK hP 0 rfl rfl 0 (by decide) k30 (fun _ h9 => h9) rfl dX0_addPart_1 ?_
  refine lv_if_lt (tgt := 55) hx hb dX0_addPart_4 (by decide) (fun c4 => ?_) (fun c4 => ?_)
  · have hM := g_pos c4 hM
    obtain ⟨rfl, rfl, rfl⟩ := si3 hM
    exact hret _ _ _ _ dX0_addPart_55 hP hD hS
  · have hM := g_neg c4 hM
    refine lv_aload_n hx hb dX0_addPart_7 rfl (lv_at hl 0 rfl) ?_
    refine va_get (D := D) (ci := 0) (v := .int v_parts) (C := RX0) (T := TX0) (N := 13) hx hb hts iX0 hown hK hP 0 rfl rfl 0 (by decide) k30 (fun _ h9 => h9) rfl dX0_addPart_8 ?_
    refine lv_bipush (v := 7) hx hb dX0_addPart_11 (by decide) ?_
    refine lv_icmp_ge (tgt := 55) hx hb dX0_addPart_13 (by decide) (fun c13 => ?_) (fun c13 => ?_)
    · have hM := g_pos c13 hM
      obtain ⟨rfl, rfl, rfl⟩ := si3 hM
      exact hret _ _ _ _ dX0_addPart_55 hP hD hS
    · have hM := g_neg c13 hM
      refine lv_iload_n hx hb dX0_addPart_16 rfl (lv_at hl 2 rfl) ?_
      refine lv_if_le (tgt := 55) hx hb dX0_addPart_17 (by decide) (fun c17 => ?_) (fun c17 => ?_)
      · have hM := g_pos c17 hM
        obtain ⟨rfl, rfl, rfl⟩ := si3 hM
        exact hret _ _ _ _ dX0_addPart_55 hP hD hS
      · have hM := g_neg c17 hM
        refine lv_aload_n hx hb dX0_addPart_20 rfl (lv_at hl 0 rfl) ?_
        refine va_get (D := D) (ci := 0) (v := .ref h0_rate) (C := RX0) (T := TX0) (N := 13) hx hb hts iX0 hown hK hP 0 rfl rfl 7 (by decide) k9 (fun _ h9 => h9) rfl dX0_addPart_21 ?_
        refine lv_aload_n hx hb dX0_addPart_24 rfl (lv_at hl 0 rfl) ?_
        refine va_get (D := D) (ci := 0) (v := .int v_parts) (C := RX0) (T := TX0) (N := 13) hx hb hts iX0 hown hK hP 0 rfl rfl 0 (by decide) k30 (fun _ h9 => h9) rfl dX0_addPart_25 ?_
        refine lv_bipush (v := 60) hx hb dX0_addPart_28 (by decide) ?_
        refine lv_iload_n hx hb dX0_addPart_30 rfl (lv_at hl 1 rfl) ?_
        refine lv_imul hx hb dX0_addPart_31 ?_
        refine lv_iload_n hx hb dX0_addPart_32 rfl (lv_at hl 2 rfl) ?_
        obtain ⟨hz33, hM⟩ := gz_some hM
        refine lv_idiv hx hb dX0_addPart_33 hz33 ?_
        obtain ⟨h34, hM⟩ := gi_some hM
        refine va_iast hx hb hK hP hD hS 1 2 rfl rfl h34 dX0_addPart_34 (fun H locs hP hD hS => ?_)
        have hP : va_P D vwCl [(h0, .inr (0, [.int v_parts, oh0_1, oh0_2, oh0_3, oh0_4, oh0_5, oh0_6, .ref h0_rate, .ref h0_near, oh0_9, oh0_10, oh0_11, oh0_12])), (h0_rate, .inl (cy 2, 7, .inl (upd v_rate v_parts.toNatClampNeg (((60 : Int32) * p1) / p2)))), (h0_near, .inl (cy 2, 7, .inl v_near))] H := hP
        have hD : va_D A [(h0, .inr (0, [.int v_parts, oh0_1, oh0_2, oh0_3, oh0_4, oh0_5, oh0_6, .ref h0_rate, .ref h0_near, oh0_9, oh0_10, oh0_11, oh0_12])), (h0_rate, .inl (cy 2, 7, .inl (upd v_rate v_parts.toNatClampNeg (((60 : Int32) * p1) / p2)))), (h0_near, .inl (cy 2, 7, .inl v_near))] := hD
        refine lv_aload_n hx hb dX0_addPart_35 rfl (lv_at hl 0 rfl) ?_
        refine va_get (D := D) (ci := 0) (v := .ref h0_near) (C := RX0) (T := TX0) (N := 13) hx hb hts iX0 hown hK hP 0 rfl rfl 8 (by decide) k15 (fun _ h9 => h9) rfl dX0_addPart_36 ?_
        refine lv_aload_n hx hb dX0_addPart_39 rfl (lv_at hl 0 rfl) ?_
        refine va_get (D := D) (ci := 0) (v := .int v_parts) (C := RX0) (T := TX0) (N := 13) hx hb hts iX0 hown hK hP 0 rfl rfl 0 (by decide) k30 (fun _ h9 => h9) rfl dX0_addPart_40 ?_
        refine lv_iconst (v := 0) hx hb dX0_addPart_43 (by decide) ?_
        obtain ⟨h44, hM⟩ := gi_some hM
        refine va_iast hx hb hK hP hD hS 2 2 rfl rfl h44 dX0_addPart_44 (fun H locs hP hD hS => ?_)
        have hP : va_P D vwCl [(h0, .inr (0, [.int v_parts, oh0_1, oh0_2, oh0_3, oh0_4, oh0_5, oh0_6, .ref h0_rate, .ref h0_near, oh0_9, oh0_10, oh0_11, oh0_12])), (h0_rate, .inl (cy 2, 7, .inl (upd v_rate v_parts.toNatClampNeg (((60 : Int32) * p1) / p2)))), (h0_near, .inl (cy 2, 7, .inl (upd v_near v_parts.toNatClampNeg (0 : Int32))))] H := hP
        have hD : va_D A [(h0, .inr (0, [.int v_parts, oh0_1, oh0_2, oh0_3, oh0_4, oh0_5, oh0_6, .ref h0_rate, .ref h0_near, oh0_9, oh0_10, oh0_11, oh0_12])), (h0_rate, .inl (cy 2, 7, .inl (upd v_rate v_parts.toNatClampNeg (((60 : Int32) * p1) / p2)))), (h0_near, .inl (cy 2, 7, .inl (upd v_near v_parts.toNatClampNeg (0 : Int32))))] := hD
        refine lv_aload_n hx hb dX0_addPart_45 rfl (lv_at hl 0 rfl) ?_
        refine lv_dup hx hb dX0_addPart_46 rfl ?_
        refine va_get (D := D) (ci := 0) (v := .int v_parts) (C := RX0) (T := TX0) (N := 13) hx hb hts iX0 hown hK hP 0 rfl rfl 0 (by decide) k30 (fun _ h9 => h9) rfl dX0_addPart_47 ?_
        refine lv_iconst (v := 1) hx hb dX0_addPart_50 (by decide) ?_
        refine lv_iadd hx hb dX0_addPart_51 ?_
        refine va_put (D := D) (ci := 0) (v := .int (v_parts + (1 : Int32))) (ty := .int) (C := RX0) (T := TX0) (N := 13) hx hb hts iX0 tyX0 tyX0_ok nmX0 hown hK hP hD hS 0 rfl rfl 0 (by decide) k30 (fun _ h9 => h9) rfl (by decide +kernel) rfl rfl (Nat.le_of_ble_eq_true rfl) dX0_addPart_52 (fun H locs hP hD hS => ?_)
        have hP : va_P D vwCl [(h0, .inr (0, [.int (v_parts + (1 : Int32)), oh0_1, oh0_2, oh0_3, oh0_4, oh0_5, oh0_6, .ref h0_rate, .ref h0_near, oh0_9, oh0_10, oh0_11, oh0_12])), (h0_rate, .inl (cy 2, 7, .inl (upd v_rate v_parts.toNatClampNeg (((60 : Int32) * p1) / p2)))), (h0_near, .inl (cy 2, 7, .inl (upd v_near v_parts.toNatClampNeg (0 : Int32))))] H := hP
        have hD : va_D A [(h0, .inr (0, [.int (v_parts + (1 : Int32)), oh0_1, oh0_2, oh0_3, oh0_4, oh0_5, oh0_6, .ref h0_rate, .ref h0_near, oh0_9, oh0_10, oh0_11, oh0_12])), (h0_rate, .inl (cy 2, 7, .inl (upd v_rate v_parts.toNatClampNeg (((60 : Int32) * p1) / p2)))), (h0_near, .inl (cy 2, 7, .inl (upd v_near v_parts.toNatClampNeg (0 : Int32))))] := hD
        obtain ⟨rfl, rfl, rfl⟩ := si3 hM
        exact hret _ _ _ _ dX0_addPart_55 hP hD hS

-- ===== X0_addMouth addMouth (I)V =====
abbrev r0_addMouth : Room := { frames := 1, cells := 0, slots := 0, locals := 21 }
def f0_addMouth (N : Nat) (p1 : Int32) (v_parts : Int32) (v_mouths : Int32) : Option Int32 :=
  ob1 (f0_hasPart N p1 v_parts) fun r2 => if r2 = (0 : Int32) then (some v_mouths) else (some (v_mouths ||| ((1 : Int32) <<< (p1 &&& 31))))
set_option maxHeartbeats 4000000 in
set_option maxRecDepth 100000 in
theorem c0_addMouth (l : Launch) (D : va_G) (cy : Nat → ClassId) (N : Nat) (h0 : Nat) (oh0_2 oh0_3 oh0_4 oh0_5 oh0_6 oh0_7 oh0_8 oh0_9 oh0_10 oh0_11 oh0_12 : Value) (p1 : Int32) (v_parts : Int32) (v_mouths : Int32) (nv_mouths : Int32) (hM : f0_addMouth N p1 v_parts v_mouths = some nv_mouths) (sz : Nat) : CTv l yX0_addMouth wsX0_addMouth r0_addMouth [.ref h0, .int p1] D cy sz [(h0, .inr (0, [.int v_parts, .int v_mouths, oh0_2, oh0_3, oh0_4, oh0_5, oh0_6, oh0_7, oh0_8, oh0_9, oh0_10, oh0_11, oh0_12]))] [(h0, .inr (0, [.int v_parts, .int nv_mouths, oh0_2, oh0_3, oh0_4, oh0_5, oh0_6, oh0_7, oh0_8, oh0_9, oh0_10, oh0_11, oh0_12]))] := by
  unfold f0_addMouth at hM
  refine ct_ov (cc := cX0_addMouth) (maxL := 2)  (by decide +kernel) rfl (Nat.le_of_ble_eq_true rfl) (lv0 := [(0, .ref h0), (1, .int p1)]) rfl ?_
  intro p e s m args below meth c A Q ls hx hb hts hown hml hK hP hD hS hA hret hl
  have hown : s.vm.findClass RX0 = some m.cls := hown
  have k34 := hts (.fieldLink RX0 34 "CaveYears$Cave" "mouths" "I") (List.mem_of_getElem? (i := 1) rfl)
  have iX0 := (fun w h => (List.mem_cons_of_mem _ (List.mem_append_right _ h)) : ∀ w ∈ wsX00, w ∈ wsX0_addMouth)
  refine lv_aload_n hx hb dX0_addMouth_0 rfl (lv_at hl 0 rfl) ?_
  refine lv_iload_n hx hb dX0_addMouth_1 rfl (lv_at hl 1 rfl) ?_
  obtain ⟨r2, hc2, hM⟩ := ob1_some hM
  refine cl_vi (As := [.int p1]) (rest := []) (ci := 0) (q0 := 0) (wr := []) (ws2 := [(h0, .inr (0, [.int v_parts, .int v_mouths, oh0_2, oh0_3, oh0_4, oh0_5, oh0_6, oh0_7, oh0_8, oh0_9, oh0_10, oh0_11, oh0_12]))]) (isC := [0]) (isR := []) (pm := [0]) hx hb hml hown hts (c0_hasPart l D cy N h0 (.int v_mouths) oh0_2 oh0_3 oh0_4 oh0_5 oh0_6 oh0_7 oh0_8 oh0_9 oh0_10 oh0_11 oh0_12 p1 v_parts r2 hc2) (cwV 1 hts gX0_addMouth_X0_hasPart rfl rfl rfl (by decide +kernel) ⟨Nat.le_of_ble_eq_true rfl, Nat.le_of_ble_eq_true rfl⟩) hK hP hD hS hA rfl rfl rfl rfl rfl (by decide) rfl rfl rfl hl.1 (Nat.le_of_ble_eq_true rfl) dX0_addMouth_2 ⟨Nat.zero_le _, Nat.zero_le _⟩ rfl rfl (fun H locs hP hD hS => ?_)
  refine lv_if_eq (tgt := 20) hx hb dX0_addMouth_5 (by decide) (fun c5 => ?_) (fun c5 => ?_)
  · have hM := g_pos c5 hM
    obtain rfl := si1 hM
    exact hret _ _ _ _ dX0_addMouth_20 hP hD hS
  · have hM := g_neg c5 hM
    refine lv_aload_n hx hb dX0_addMouth_8 rfl (lv_at hl 0 rfl) ?_
    refine lv_dup hx hb dX0_addMouth_9 rfl ?_
    refine va_get (D := D) (ci := 0) (v := .int v_mouths) (C := RX0) (T := TX0) (N := 13) hx hb hts iX0 hown hK hP 0 rfl rfl 1 (by decide) k34 (fun _ h9 => h9) rfl dX0_addMouth_10 ?_
    refine lv_iconst (v := 1) hx hb dX0_addMouth_13 (by decide) ?_
    refine lv_iload_n hx hb dX0_addMouth_14 rfl (lv_at hl 1 rfl) ?_
    refine lv_ishl hx hb dX0_addMouth_15 ?_
    refine lv_ior hx hb dX0_addMouth_16 ?_
    refine va_put (D := D) (ci := 0) (v := .int (v_mouths ||| ((1 : Int32) <<< (p1 &&& 31)))) (ty := .int) (C := RX0) (T := TX0) (N := 13) hx hb hts iX0 tyX0 tyX0_ok nmX0 hown hK hP hD hS 0 rfl rfl 1 (by decide) k34 (fun _ h9 => h9) rfl (by decide +kernel) rfl rfl (Nat.le_of_ble_eq_true rfl) dX0_addMouth_17 (fun H locs hP hD hS => ?_)
    have hP : va_P D vwCl [(h0, .inr (0, [.int v_parts, .int (v_mouths ||| ((1 : Int32) <<< (p1 &&& 31))), oh0_2, oh0_3, oh0_4, oh0_5, oh0_6, oh0_7, oh0_8, oh0_9, oh0_10, oh0_11, oh0_12]))] H := hP
    have hD : va_D A [(h0, .inr (0, [.int v_parts, .int (v_mouths ||| ((1 : Int32) <<< (p1 &&& 31))), oh0_2, oh0_3, oh0_4, oh0_5, oh0_6, oh0_7, oh0_8, oh0_9, oh0_10, oh0_11, oh0_12]))] := hD
    obtain rfl := si1 hM
    exact hret _ _ _ _ dX0_addMouth_20 hP hD hS

-- ===== X0_addWay addWay (II)V =====
abbrev r0_addWay : Room := { frames := 1, cells := 0, slots := 0, locals := 21 }
def f0_addWay (N : Nat) (p1 : Int32) (p2 : Int32) (v_parts : Int32) (v_ways : Int32) (v_near : Nat → Int32) : Option (Int32 × (Nat → Int32)) :=
  ob1 (f0_hasPart N p1 v_parts) fun r2 => if r2 = (0 : Int32) then (some (v_ways, v_near)) else (ob1 (f0_hasPart N p2 v_parts) fun r10 => if r10 = (0 : Int32) then (some (v_ways, v_near)) else (gi p1 7 (gi p1 7 (gi p2 7 (gi p2 7 (some ((v_ways + (1 : Int32)), (upd (upd v_near p1.toNatClampNeg ((v_near p1.toNatClampNeg) ||| ((1 : Int32) <<< (p2 &&& 31)))) p2.toNatClampNeg (((upd v_near p1.toNatClampNeg ((v_near p1.toNatClampNeg) ||| ((1 : Int32) <<< (p2 &&& 31)))) p2.toNatClampNeg) ||| ((1 : Int32) <<< (p1 &&& 31)))))))))))
set_option maxHeartbeats 4000000 in
set_option maxRecDepth 100000 in
theorem c0_addWay (l : Launch) (D : va_G) (cy : Nat → ClassId) (N : Nat) (h0 h0_near : Nat) (oh0_1 oh0_3 oh0_4 oh0_5 oh0_6 oh0_7 oh0_9 oh0_10 oh0_11 oh0_12 : Value) (p1 : Int32) (p2 : Int32) (v_parts : Int32) (v_ways : Int32) (v_near : Nat → Int32) (nv_ways : Int32) (nv_near : Nat → Int32) (hM : f0_addWay N p1 p2 v_parts v_ways v_near = some (nv_ways, nv_near)) (sz : Nat) : CTv l yX0_addWay wsX0_addWay r0_addWay [.ref h0, .int p1, .int p2] D cy sz [(h0, .inr (0, [.int v_parts, oh0_1, .int v_ways, oh0_3, oh0_4, oh0_5, oh0_6, oh0_7, .ref h0_near, oh0_9, oh0_10, oh0_11, oh0_12])), (h0_near, .inl (cy 2, 7, .inl v_near))] [(h0, .inr (0, [.int v_parts, oh0_1, .int nv_ways, oh0_3, oh0_4, oh0_5, oh0_6, oh0_7, .ref h0_near, oh0_9, oh0_10, oh0_11, oh0_12])), (h0_near, .inl (cy 2, 7, .inl nv_near))] := by
  unfold f0_addWay at hM
  refine ct_ov (cc := cX0_addWay) (maxL := 3)  (by decide +kernel) rfl (Nat.le_of_ble_eq_true rfl) (lv0 := [(0, .ref h0), (1, .int p1), (2, .int p2)]) rfl ?_
  intro p e s m args below meth c A Q ls hx hb hts hown hml hK hP hD hS hA hret hl
  have hown : s.vm.findClass RX0 = some m.cls := hown
  have k15 := hts (.fieldLink RX0 15 "CaveYears$Cave" "near" "[I") (List.mem_of_getElem? (i := 1) rfl)
  have iX0 := (fun w h => (List.mem_cons_of_mem _ (List.mem_append_right _ h)) : ∀ w ∈ wsX00, w ∈ wsX0_addWay)
  have k37 := hts (.fieldLink RX0 37 "CaveYears$Cave" "ways" "I") (List.mem_of_getElem? (i := 2) rfl)
  refine lv_aload_n hx hb dX0_addWay_0 rfl (lv_at hl 0 rfl) ?_
  refine lv_iload_n hx hb dX0_addWay_1 rfl (lv_at hl 1 rfl) ?_
  obtain ⟨r2, hc2, hM⟩ := ob1_some hM
  refine cl_vi (As := [.int p1]) (rest := []) (ci := 0) (q0 := 0) (wr := [(h0_near, .inl (cy 2, 7, .inl v_near))]) (ws2 := [(h0, .inr (0, [.int v_parts, oh0_1, .int v_ways, oh0_3, oh0_4, oh0_5, oh0_6, oh0_7, .ref h0_near, oh0_9, oh0_10, oh0_11, oh0_12])), (h0_near, .inl (cy 2, 7, .inl v_near))]) (isC := [0]) (isR := [1]) (pm := [1, 0]) hx hb hml hown hts (c0_hasPart l D cy N h0 oh0_1 (.int v_ways) oh0_3 oh0_4 oh0_5 oh0_6 oh0_7 (.ref h0_near) oh0_9 oh0_10 oh0_11 oh0_12 p1 v_parts r2 hc2) (cwV 1 hts gX0_addWay_X0_hasPart rfl rfl rfl (by decide +kernel) ⟨Nat.le_of_ble_eq_true rfl, Nat.le_of_ble_eq_true rfl⟩) hK hP hD hS hA rfl rfl rfl rfl rfl (by decide) rfl rfl rfl hl.1 (Nat.le_of_ble_eq_true rfl) dX0_addWay_2 ⟨Nat.zero_le _, Nat.zero_le _⟩ rfl rfl (fun H locs hP hD hS => ?_)
  refine lv_if_eq (tgt := 50) hx hb dX0_addWay_5 (by decide) (fun c5 => ?_) (fun c5 => ?_)
  · have hM := g_pos c5 hM
    obtain ⟨rfl, rfl⟩ := si2 hM
    exact hret _ _ _ _ dX0_addWay_50 hP hD hS
  · have hM := g_neg c5 hM
    refine lv_aload_n hx hb dX0_addWay_8 rfl (lv_at hl 0 rfl) ?_
    refine lv_iload_n hx hb dX0_addWay_9 rfl (lv_at hl 2 rfl) ?_
    obtain ⟨r10, hc10, hM⟩ := ob1_some hM
    refine cl_vi (As := [.int p2]) (rest := []) (ci := 0) (q0 := 0) (wr := [(h0_near, .inl (cy 2, 7, .inl v_near))]) (ws2 := [(h0, .inr (0, [.int v_parts, oh0_1, .int v_ways, oh0_3, oh0_4, oh0_5, oh0_6, oh0_7, .ref h0_near, oh0_9, oh0_10, oh0_11, oh0_12])), (h0_near, .inl (cy 2, 7, .inl v_near))]) (isC := [0]) (isR := [1]) (pm := [1, 0]) hx hb hml hown hts (c0_hasPart l D cy N h0 oh0_1 (.int v_ways) oh0_3 oh0_4 oh0_5 oh0_6 oh0_7 (.ref h0_near) oh0_9 oh0_10 oh0_11 oh0_12 p2 v_parts r10 hc10) (cwV 1 hts gX0_addWay_X0_hasPart rfl rfl rfl (by decide +kernel) ⟨Nat.le_of_ble_eq_true rfl, Nat.le_of_ble_eq_true rfl⟩) hK hP hD hS hA rfl rfl rfl rfl rfl (by decide) rfl rfl rfl hl.1 (Nat.le_of_ble_eq_true rfl) dX0_addWay_10 ⟨Nat.zero_le _, Nat.zero_le _⟩ rfl rfl (fun H locs hP hD hS => ?_)
    refine lv_if_eq (tgt := 50) hx hb dX0_addWay_13 (by decide) (fun c13 => ?_) (fun c13 => ?_)
    · have hM := g_pos c13 hM
      obtain ⟨rfl, rfl⟩ := si2 hM
      exact hret _ _ _ _ dX0_addWay_50 hP hD hS
    · have hM := g_neg c13 hM
      refine lv_aload_n hx hb dX0_addWay_16 rfl (lv_at hl 0 rfl) ?_
      refine va_get (D := D) (ci := 0) (v := .ref h0_near) (C := RX0) (T := TX0) (N := 13) hx hb hts iX0 hown hK hP 0 rfl rfl 8 (by decide) k15 (fun _ h9 => h9) rfl dX0_addWay_17 ?_
      refine lv_iload_n hx hb dX0_addWay_20 rfl (lv_at hl 1 rfl) ?_
      refine lv_dup2_11 hx hb dX0_addWay_21 rfl rfl ?_
      obtain ⟨h22, hM⟩ := gi_some hM
      refine va_iald hx hb hK hP 1 2 rfl rfl h22 dX0_addWay_22 ?_
      refine lv_iconst (v := 1) hx hb dX0_addWay_23 (by decide) ?_
      refine lv_iload_n hx hb dX0_addWay_24 rfl (lv_at hl 2 rfl) ?_
      refine lv_ishl hx hb dX0_addWay_25 ?_
      refine lv_ior hx hb dX0_addWay_26 ?_
      obtain ⟨h27, hM⟩ := gi_some hM
      refine va_iast hx hb hK hP hD hS 1 2 rfl rfl h27 dX0_addWay_27 (fun H locs hP hD hS => ?_)
      have hP : va_P D vwCl [(h0, .inr (0, [.int v_parts, oh0_1, .int v_ways, oh0_3, oh0_4, oh0_5, oh0_6, oh0_7, .ref h0_near, oh0_9, oh0_10, oh0_11, oh0_12])), (h0_near, .inl (cy 2, 7, .inl (upd v_near p1.toNatClampNeg ((v_near p1.toNatClampNeg) ||| ((1 : Int32) <<< (p2 &&& 31))))))] H := hP
      have hD : va_D A [(h0, .inr (0, [.int v_parts, oh0_1, .int v_ways, oh0_3, oh0_4, oh0_5, oh0_6, oh0_7, .ref h0_near, oh0_9, oh0_10, oh0_11, oh0_12])), (h0_near, .inl (cy 2, 7, .inl (upd v_near p1.toNatClampNeg ((v_near p1.toNatClampNeg) ||| ((1 : Int32) <<< (p2 &&& 31))))))] := hD
      refine lv_aload_n hx hb dX0_addWay_28 rfl (lv_at hl 0 rfl) ?_
      refine va_get (D := D) (ci := 0) (v := .ref h0_near) (C := RX0) (T := TX0) (N := 13) hx hb hts iX0 hown hK hP 0 rfl rfl 8 (by decide) k15 (fun _ h9 => h9) rfl dX0_addWay_29 ?_
      refine lv_iload_n hx hb dX0_addWay_32 rfl (lv_at hl 2 rfl) ?_
      refine lv_dup2_11 hx hb dX0_addWay_33 rfl rfl ?_
      obtain ⟨h34, hM⟩ := gi_some hM
      refine va_iald hx hb hK hP 1 2 rfl rfl h34 dX0_addWay_34 ?_
      refine lv_iconst (v := 1) hx hb dX0_addWay_35 (by decide) ?_
      refine lv_iload_n hx hb dX0_addWay_36 rfl (lv_at hl 1 rfl) ?_
      refine lv_ishl hx hb dX0_addWay_37 ?_
      refine lv_ior hx hb dX0_addWay_38 ?_
      obtain ⟨h39, hM⟩ := gi_some hM
      refine va_iast hx hb hK hP hD hS 1 2 rfl rfl h39 dX0_addWay_39 (fun H locs hP hD hS => ?_)
      have hP : va_P D vwCl [(h0, .inr (0, [.int v_parts, oh0_1, .int v_ways, oh0_3, oh0_4, oh0_5, oh0_6, oh0_7, .ref h0_near, oh0_9, oh0_10, oh0_11, oh0_12])), (h0_near, .inl (cy 2, 7, .inl (upd (upd v_near p1.toNatClampNeg ((v_near p1.toNatClampNeg) ||| ((1 : Int32) <<< (p2 &&& 31)))) p2.toNatClampNeg (((upd v_near p1.toNatClampNeg ((v_near p1.toNatClampNeg) ||| ((1 : Int32) <<< (p2 &&& 31)))) p2.toNatClampNeg) ||| ((1 : Int32) <<< (p1 &&& 31))))))] H := hP
      have hD : va_D A [(h0, .inr (0, [.int v_parts, oh0_1, .int v_ways, oh0_3, oh0_4, oh0_5, oh0_6, oh0_7, .ref h0_near, oh0_9, oh0_10, oh0_11, oh0_12])), (h0_near, .inl (cy 2, 7, .inl (upd (upd v_near p1.toNatClampNeg ((v_near p1.toNatClampNeg) ||| ((1 : Int32) <<< (p2 &&& 31)))) p2.toNatClampNeg (((upd v_near p1.toNatClampNeg ((v_near p1.toNatClampNeg) ||| ((1 : Int32) <<< (p2 &&& 31)))) p2.toNatClampNeg) ||| ((1 : Int32) <<< (p1 &&& 31))))))] := hD
      refine lv_aload_n hx hb dX0_addWay_40 rfl (lv_at hl 0 rfl) ?_
      refine lv_dup hx hb dX0_addWay_41 rfl ?_
      refine va_get (D := D) (ci := 0) (v := .int v_ways) (C := RX0) (T := TX0) (N := 13) hx hb hts iX0 hown hK hP 0 rfl rfl 2 (by decide) k37 (fun _ h9 => h9) rfl dX0_addWay_42 ?_
      refine lv_iconst (v := 1) hx hb dX0_addWay_45 (by decide) ?_
      refine lv_iadd hx hb dX0_addWay_46 ?_
      refine va_put (D := D) (ci := 0) (v := .int (v_ways + (1 : Int32))) (ty := .int) (C := RX0) (T := TX0) (N := 13) hx hb hts iX0 tyX0 tyX0_ok nmX0 hown hK hP hD hS 0 rfl rfl 2 (by decide) k37 (fun _ h9 => h9) rfl (by decide +kernel) rfl rfl (Nat.le_of_ble_eq_true rfl) dX0_addWay_47 (fun H locs hP hD hS => ?_)
      have hP : va_P D vwCl [(h0, .inr (0, [.int v_parts, oh0_1, .int (v_ways + (1 : Int32)), oh0_3, oh0_4, oh0_5, oh0_6, oh0_7, .ref h0_near, oh0_9, oh0_10, oh0_11, oh0_12])), (h0_near, .inl (cy 2, 7, .inl (upd (upd v_near p1.toNatClampNeg ((v_near p1.toNatClampNeg) ||| ((1 : Int32) <<< (p2 &&& 31)))) p2.toNatClampNeg (((upd v_near p1.toNatClampNeg ((v_near p1.toNatClampNeg) ||| ((1 : Int32) <<< (p2 &&& 31)))) p2.toNatClampNeg) ||| ((1 : Int32) <<< (p1 &&& 31))))))] H := hP
      have hD : va_D A [(h0, .inr (0, [.int v_parts, oh0_1, .int (v_ways + (1 : Int32)), oh0_3, oh0_4, oh0_5, oh0_6, oh0_7, .ref h0_near, oh0_9, oh0_10, oh0_11, oh0_12])), (h0_near, .inl (cy 2, 7, .inl (upd (upd v_near p1.toNatClampNeg ((v_near p1.toNatClampNeg) ||| ((1 : Int32) <<< (p2 &&& 31)))) p2.toNatClampNeg (((upd v_near p1.toNatClampNeg ((v_near p1.toNatClampNeg) ||| ((1 : Int32) <<< (p2 &&& 31)))) p2.toNatClampNeg) ||| ((1 : Int32) <<< (p1 &&& 31))))))] := hD
      obtain ⟨rfl, rfl⟩ := si2 hM
      exact hret _ _ _ _ dX0_addWay_50 hP hD hS

-- ===== X0_addPerson addPerson (II)V =====
abbrev r0_addPerson : Room := { frames := 0, cells := 0, slots := 0, locals := 0 }
def f0_addPerson (N : Nat) (p1 : Int32) (p2 : Int32) (v_persons : Int32) (v_firstAge : Nat → Int32) (v_firstRiches : Nat → Int32) : Option (Int32 × (Nat → Int32) × (Nat → Int32)) :=
  if v_persons < (0 : Int32) then (some (v_persons, v_firstAge, v_firstRiches)) else (if (6 : Int32) ≤ v_persons then (some (v_persons, v_firstAge, v_firstRiches)) else (gi v_persons 6 (gi v_persons 6 (some ((v_persons + (1 : Int32)), (upd v_firstAge v_persons.toNatClampNeg ((60 : Int32) * p1)), (upd v_firstRiches v_persons.toNatClampNeg p2))))))
set_option maxHeartbeats 4000000 in
set_option maxRecDepth 100000 in
theorem c0_addPerson (l : Launch) (D : va_G) (cy : Nat → ClassId) (N : Nat) (h0 h0_firstAge h0_firstRiches : Nat) (oh0_0 oh0_1 oh0_2 oh0_4 oh0_5 oh0_6 oh0_7 oh0_8 oh0_11 oh0_12 : Value) (p1 : Int32) (p2 : Int32) (v_persons : Int32) (v_firstAge : Nat → Int32) (v_firstRiches : Nat → Int32) (nv_persons : Int32) (nv_firstAge : Nat → Int32) (nv_firstRiches : Nat → Int32) (hM : f0_addPerson N p1 p2 v_persons v_firstAge v_firstRiches = some (nv_persons, nv_firstAge, nv_firstRiches)) (sz : Nat) : CTv l yX0_addPerson wsX0_addPerson r0_addPerson [.ref h0, .int p1, .int p2] D cy sz [(h0, .inr (0, [oh0_0, oh0_1, oh0_2, .int v_persons, oh0_4, oh0_5, oh0_6, oh0_7, oh0_8, .ref h0_firstAge, .ref h0_firstRiches, oh0_11, oh0_12])), (h0_firstAge, .inl (cy 2, 6, .inl v_firstAge)), (h0_firstRiches, .inl (cy 2, 6, .inl v_firstRiches))] [(h0, .inr (0, [oh0_0, oh0_1, oh0_2, .int nv_persons, oh0_4, oh0_5, oh0_6, oh0_7, oh0_8, .ref h0_firstAge, .ref h0_firstRiches, oh0_11, oh0_12])), (h0_firstAge, .inl (cy 2, 6, .inl nv_firstAge)), (h0_firstRiches, .inl (cy 2, 6, .inl nv_firstRiches))] := by
  unfold f0_addPerson at hM
  refine ct_ov (cc := cX0_addPerson) (maxL := 3)  (by decide +kernel) rfl (Nat.le_of_ble_eq_true rfl) (lv0 := [(0, .ref h0), (1, .int p1), (2, .int p2)]) rfl ?_
  intro p e s m args below meth c A Q ls hx hb hts hown hml hK hP hD hS hA hret hl
  have hown : s.vm.findClass RX0 = some m.cls := hown
  have k40 := hts (.fieldLink RX0 40 "CaveYears$Cave" "persons" "I") (List.mem_of_getElem? (i := 1) rfl)
  have iX0 := (fun w h => (List.mem_cons_of_mem _ (List.mem_append_right _ h)) : ∀ w ∈ wsX00, w ∈ wsX0_addPerson)
  have k18 := hts (.fieldLink RX0 18 "CaveYears$Cave" "firstAge" "[I") (List.mem_of_getElem? (i := 2) rfl)
  have k21 := hts (.fieldLink RX0 21 "CaveYears$Cave" "firstRiches" "[I") (List.mem_of_getElem? (i := 3) rfl)
  refine lv_aload_n hx hb dX0_addPerson_0 rfl (lv_at hl 0 rfl) ?_
  refine va_get (D := D) (ci := 0) (v := .int v_persons) (C := RX0) (T := TX0) (N := 13) hx hb hts iX0 hown hK hP 0 rfl rfl 3 (by decide) k40 (fun _ h9 => h9) rfl dX0_addPerson_1 ?_
  refine lv_if_lt (tgt := 49) hx hb dX0_addPerson_4 (by decide) (fun c4 => ?_) (fun c4 => ?_)
  · have hM := g_pos c4 hM
    obtain ⟨rfl, rfl, rfl⟩ := si3 hM
    exact hret _ _ _ _ dX0_addPerson_49 hP hD hS
  · have hM := g_neg c4 hM
    refine lv_aload_n hx hb dX0_addPerson_7 rfl (lv_at hl 0 rfl) ?_
    refine va_get (D := D) (ci := 0) (v := .int v_persons) (C := RX0) (T := TX0) (N := 13) hx hb hts iX0 hown hK hP 0 rfl rfl 3 (by decide) k40 (fun _ h9 => h9) rfl dX0_addPerson_8 ?_
    refine lv_bipush (v := 6) hx hb dX0_addPerson_11 (by decide) ?_
    refine lv_icmp_ge (tgt := 49) hx hb dX0_addPerson_13 (by decide) (fun c13 => ?_) (fun c13 => ?_)
    · have hM := g_pos c13 hM
      obtain ⟨rfl, rfl, rfl⟩ := si3 hM
      exact hret _ _ _ _ dX0_addPerson_49 hP hD hS
    · have hM := g_neg c13 hM
      refine lv_aload_n hx hb dX0_addPerson_16 rfl (lv_at hl 0 rfl) ?_
      refine va_get (D := D) (ci := 0) (v := .ref h0_firstAge) (C := RX0) (T := TX0) (N := 13) hx hb hts iX0 hown hK hP 0 rfl rfl 9 (by decide) k18 (fun _ h9 => h9) rfl dX0_addPerson_17 ?_
      refine lv_aload_n hx hb dX0_addPerson_20 rfl (lv_at hl 0 rfl) ?_
      refine va_get (D := D) (ci := 0) (v := .int v_persons) (C := RX0) (T := TX0) (N := 13) hx hb hts iX0 hown hK hP 0 rfl rfl 3 (by decide) k40 (fun _ h9 => h9) rfl dX0_addPerson_21 ?_
      refine lv_bipush (v := 60) hx hb dX0_addPerson_24 (by decide) ?_
      refine lv_iload_n hx hb dX0_addPerson_26 rfl (lv_at hl 1 rfl) ?_
      refine lv_imul hx hb dX0_addPerson_27 ?_
      obtain ⟨h28, hM⟩ := gi_some hM
      refine va_iast hx hb hK hP hD hS 1 2 rfl rfl h28 dX0_addPerson_28 (fun H locs hP hD hS => ?_)
      have hP : va_P D vwCl [(h0, .inr (0, [oh0_0, oh0_1, oh0_2, .int v_persons, oh0_4, oh0_5, oh0_6, oh0_7, oh0_8, .ref h0_firstAge, .ref h0_firstRiches, oh0_11, oh0_12])), (h0_firstAge, .inl (cy 2, 6, .inl (upd v_firstAge v_persons.toNatClampNeg ((60 : Int32) * p1)))), (h0_firstRiches, .inl (cy 2, 6, .inl v_firstRiches))] H := hP
      have hD : va_D A [(h0, .inr (0, [oh0_0, oh0_1, oh0_2, .int v_persons, oh0_4, oh0_5, oh0_6, oh0_7, oh0_8, .ref h0_firstAge, .ref h0_firstRiches, oh0_11, oh0_12])), (h0_firstAge, .inl (cy 2, 6, .inl (upd v_firstAge v_persons.toNatClampNeg ((60 : Int32) * p1)))), (h0_firstRiches, .inl (cy 2, 6, .inl v_firstRiches))] := hD
      refine lv_aload_n hx hb dX0_addPerson_29 rfl (lv_at hl 0 rfl) ?_
      refine va_get (D := D) (ci := 0) (v := .ref h0_firstRiches) (C := RX0) (T := TX0) (N := 13) hx hb hts iX0 hown hK hP 0 rfl rfl 10 (by decide) k21 (fun _ h9 => h9) rfl dX0_addPerson_30 ?_
      refine lv_aload_n hx hb dX0_addPerson_33 rfl (lv_at hl 0 rfl) ?_
      refine va_get (D := D) (ci := 0) (v := .int v_persons) (C := RX0) (T := TX0) (N := 13) hx hb hts iX0 hown hK hP 0 rfl rfl 3 (by decide) k40 (fun _ h9 => h9) rfl dX0_addPerson_34 ?_
      refine lv_iload_n hx hb dX0_addPerson_37 rfl (lv_at hl 2 rfl) ?_
      obtain ⟨h38, hM⟩ := gi_some hM
      refine va_iast hx hb hK hP hD hS 2 2 rfl rfl h38 dX0_addPerson_38 (fun H locs hP hD hS => ?_)
      have hP : va_P D vwCl [(h0, .inr (0, [oh0_0, oh0_1, oh0_2, .int v_persons, oh0_4, oh0_5, oh0_6, oh0_7, oh0_8, .ref h0_firstAge, .ref h0_firstRiches, oh0_11, oh0_12])), (h0_firstAge, .inl (cy 2, 6, .inl (upd v_firstAge v_persons.toNatClampNeg ((60 : Int32) * p1)))), (h0_firstRiches, .inl (cy 2, 6, .inl (upd v_firstRiches v_persons.toNatClampNeg p2)))] H := hP
      have hD : va_D A [(h0, .inr (0, [oh0_0, oh0_1, oh0_2, .int v_persons, oh0_4, oh0_5, oh0_6, oh0_7, oh0_8, .ref h0_firstAge, .ref h0_firstRiches, oh0_11, oh0_12])), (h0_firstAge, .inl (cy 2, 6, .inl (upd v_firstAge v_persons.toNatClampNeg ((60 : Int32) * p1)))), (h0_firstRiches, .inl (cy 2, 6, .inl (upd v_firstRiches v_persons.toNatClampNeg p2)))] := hD
      refine lv_aload_n hx hb dX0_addPerson_39 rfl (lv_at hl 0 rfl) ?_
      refine lv_dup hx hb dX0_addPerson_40 rfl ?_
      refine va_get (D := D) (ci := 0) (v := .int v_persons) (C := RX0) (T := TX0) (N := 13) hx hb hts iX0 hown hK hP 0 rfl rfl 3 (by decide) k40 (fun _ h9 => h9) rfl dX0_addPerson_41 ?_
      refine lv_iconst (v := 1) hx hb dX0_addPerson_44 (by decide) ?_
      refine lv_iadd hx hb dX0_addPerson_45 ?_
      refine va_put (D := D) (ci := 0) (v := .int (v_persons + (1 : Int32))) (ty := .int) (C := RX0) (T := TX0) (N := 13) hx hb hts iX0 tyX0 tyX0_ok nmX0 hown hK hP hD hS 0 rfl rfl 3 (by decide) k40 (fun _ h9 => h9) rfl (by decide +kernel) rfl rfl (Nat.le_of_ble_eq_true rfl) dX0_addPerson_46 (fun H locs hP hD hS => ?_)
      have hP : va_P D vwCl [(h0, .inr (0, [oh0_0, oh0_1, oh0_2, .int (v_persons + (1 : Int32)), oh0_4, oh0_5, oh0_6, oh0_7, oh0_8, .ref h0_firstAge, .ref h0_firstRiches, oh0_11, oh0_12])), (h0_firstAge, .inl (cy 2, 6, .inl (upd v_firstAge v_persons.toNatClampNeg ((60 : Int32) * p1)))), (h0_firstRiches, .inl (cy 2, 6, .inl (upd v_firstRiches v_persons.toNatClampNeg p2)))] H := hP
      have hD : va_D A [(h0, .inr (0, [oh0_0, oh0_1, oh0_2, .int (v_persons + (1 : Int32)), oh0_4, oh0_5, oh0_6, oh0_7, oh0_8, .ref h0_firstAge, .ref h0_firstRiches, oh0_11, oh0_12])), (h0_firstAge, .inl (cy 2, 6, .inl (upd v_firstAge v_persons.toNatClampNeg ((60 : Int32) * p1)))), (h0_firstRiches, .inl (cy 2, 6, .inl (upd v_firstRiches v_persons.toNatClampNeg p2)))] := hD
      obtain ⟨rfl, rfl, rfl⟩ := si3 hM
      exact hret _ _ _ _ dX0_addPerson_49 hP hD hS

-- ===== X0_setInterest setInterest (I)V =====
abbrev r0_setInterest : Room := { frames := 0, cells := 0, slots := 0, locals := 0 }
def f0_setInterest (N : Nat) (p1 : Int32) (v_interest : Int32) (v_interestTold : Int32) : Option (Int32 × Int32) :=
  some (p1, (1 : Int32))
set_option maxHeartbeats 4000000 in
set_option maxRecDepth 100000 in
theorem c0_setInterest (l : Launch) (D : va_G) (cy : Nat → ClassId) (N : Nat) (h0 : Nat) (oh0_0 oh0_1 oh0_2 oh0_3 oh0_6 oh0_7 oh0_8 oh0_9 oh0_10 oh0_11 oh0_12 : Value) (p1 : Int32) (v_interest : Int32) (v_interestTold : Int32) (nv_interest : Int32) (nv_interestTold : Int32) (hM : f0_setInterest N p1 v_interest v_interestTold = some (nv_interest, nv_interestTold)) (sz : Nat) : CTv l yX0_setInterest wsX0_setInterest r0_setInterest [.ref h0, .int p1] D cy sz [(h0, .inr (0, [oh0_0, oh0_1, oh0_2, oh0_3, .int v_interest, .int v_interestTold, oh0_6, oh0_7, oh0_8, oh0_9, oh0_10, oh0_11, oh0_12]))] [(h0, .inr (0, [oh0_0, oh0_1, oh0_2, oh0_3, .int nv_interest, .int nv_interestTold, oh0_6, oh0_7, oh0_8, oh0_9, oh0_10, oh0_11, oh0_12]))] := by
  unfold f0_setInterest at hM
  refine ct_ov (cc := cX0_setInterest) (maxL := 2)  (by decide +kernel) rfl (Nat.le_of_ble_eq_true rfl) (lv0 := [(0, .ref h0), (1, .int p1)]) rfl ?_
  intro p e s m args below meth c A Q ls hx hb hts hown hml hK hP hD hS hA hret hl
  have hown : s.vm.findClass RX0 = some m.cls := hown
  have k43 := hts (.fieldLink RX0 43 "CaveYears$Cave" "interest" "I") (List.mem_of_getElem? (i := 1) rfl)
  have iX0 := (fun w h => (List.mem_cons_of_mem _ (List.mem_append_right _ h)) : ∀ w ∈ wsX00, w ∈ wsX0_setInterest)
  have k46 := hts (.fieldLink RX0 46 "CaveYears$Cave" "interestTold" "Z") (List.mem_of_getElem? (i := 2) rfl)
  refine lv_aload_n hx hb dX0_setInterest_0 rfl (lv_at hl 0 rfl) ?_
  refine lv_iload_n hx hb dX0_setInterest_1 rfl (lv_at hl 1 rfl) ?_
  refine va_put (D := D) (ci := 0) (v := .int p1) (ty := .int) (C := RX0) (T := TX0) (N := 13) hx hb hts iX0 tyX0 tyX0_ok nmX0 hown hK hP hD hS 0 rfl rfl 4 (by decide) k43 (fun _ h9 => h9) rfl (by decide +kernel) rfl rfl (Nat.le_of_ble_eq_true rfl) dX0_setInterest_2 (fun H locs hP hD hS => ?_)
  have hP : va_P D vwCl [(h0, .inr (0, [oh0_0, oh0_1, oh0_2, oh0_3, .int p1, .int v_interestTold, oh0_6, oh0_7, oh0_8, oh0_9, oh0_10, oh0_11, oh0_12]))] H := hP
  have hD : va_D A [(h0, .inr (0, [oh0_0, oh0_1, oh0_2, oh0_3, .int p1, .int v_interestTold, oh0_6, oh0_7, oh0_8, oh0_9, oh0_10, oh0_11, oh0_12]))] := hD
  refine lv_aload_n hx hb dX0_setInterest_5 rfl (lv_at hl 0 rfl) ?_
  refine lv_iconst (v := 1) hx hb dX0_setInterest_6 (by decide) ?_
  refine va_put (D := D) (ci := 0) (v := .int (1 : Int32)) (ty := .boolean) (C := RX0) (T := TX0) (N := 13) hx hb hts iX0 tyX0 tyX0_ok nmX0 hown hK hP hD hS 0 rfl rfl 5 (by decide) k46 (fun _ h9 => h9) rfl (by decide +kernel) rfl rfl (Nat.le_of_ble_eq_true rfl) dX0_setInterest_7 (fun H locs hP hD hS => ?_)
  have hP : va_P D vwCl [(h0, .inr (0, [oh0_0, oh0_1, oh0_2, oh0_3, .int p1, .int (1 : Int32), oh0_6, oh0_7, oh0_8, oh0_9, oh0_10, oh0_11, oh0_12]))] H := hP
  have hD : va_D A [(h0, .inr (0, [oh0_0, oh0_1, oh0_2, oh0_3, .int p1, .int (1 : Int32), oh0_6, oh0_7, oh0_8, oh0_9, oh0_10, oh0_11, oh0_12]))] := hD
  obtain ⟨rfl, rfl⟩ := si2 hM
  exact hret _ _ _ _ dX0_setInterest_10 hP hD hS

-- ===== X0_addWinter addWinter (II)V =====
abbrev r0_addWinter : Room := { frames := 0, cells := 0, slots := 0, locals := 0 }
def f0_addWinter (N : Nat) (p1 : Int32) (p2 : Int32) (v_winters : Int32) (v_winterStart : Nat → Int32) (v_winterEnd : Nat → Int32) : Option (Int32 × (Nat → Int32) × (Nat → Int32)) :=
  if v_winters < (0 : Int32) then (some (v_winters, v_winterStart, v_winterEnd)) else (if (5 : Int32) ≤ v_winters then (some (v_winters, v_winterStart, v_winterEnd)) else (gi v_winters 5 (gi v_winters 5 (some ((v_winters + (1 : Int32)), (upd v_winterStart v_winters.toNatClampNeg ((60 : Int32) * p1)), (upd v_winterEnd v_winters.toNatClampNeg ((60 : Int32) * (p1 + p2))))))))
set_option maxHeartbeats 4000000 in
set_option maxRecDepth 100000 in
theorem c0_addWinter (l : Launch) (D : va_G) (cy : Nat → ClassId) (N : Nat) (h0 h0_winterStart h0_winterEnd : Nat) (oh0_0 oh0_1 oh0_2 oh0_3 oh0_4 oh0_5 oh0_7 oh0_8 oh0_9 oh0_10 : Value) (p1 : Int32) (p2 : Int32) (v_winters : Int32) (v_winterStart : Nat → Int32) (v_winterEnd : Nat → Int32) (nv_winters : Int32) (nv_winterStart : Nat → Int32) (nv_winterEnd : Nat → Int32) (hM : f0_addWinter N p1 p2 v_winters v_winterStart v_winterEnd = some (nv_winters, nv_winterStart, nv_winterEnd)) (sz : Nat) : CTv l yX0_addWinter wsX0_addWinter r0_addWinter [.ref h0, .int p1, .int p2] D cy sz [(h0, .inr (0, [oh0_0, oh0_1, oh0_2, oh0_3, oh0_4, oh0_5, .int v_winters, oh0_7, oh0_8, oh0_9, oh0_10, .ref h0_winterStart, .ref h0_winterEnd])), (h0_winterStart, .inl (cy 2, 5, .inl v_winterStart)), (h0_winterEnd, .inl (cy 2, 5, .inl v_winterEnd))] [(h0, .inr (0, [oh0_0, oh0_1, oh0_2, oh0_3, oh0_4, oh0_5, .int nv_winters, oh0_7, oh0_8, oh0_9, oh0_10, .ref h0_winterStart, .ref h0_winterEnd])), (h0_winterStart, .inl (cy 2, 5, .inl nv_winterStart)), (h0_winterEnd, .inl (cy 2, 5, .inl nv_winterEnd))] := by
  unfold f0_addWinter at hM
  refine ct_ov (cc := cX0_addWinter) (maxL := 3)  (by decide +kernel) rfl (Nat.le_of_ble_eq_true rfl) (lv0 := [(0, .ref h0), (1, .int p1), (2, .int p2)]) rfl ?_
  intro p e s m args below meth c A Q ls hx hb hts hown hml hK hP hD hS hA hret hl
  have hown : s.vm.findClass RX0 = some m.cls := hown
  have k50 := hts (.fieldLink RX0 50 "CaveYears$Cave" "winters" "I") (List.mem_of_getElem? (i := 1) rfl)
  have iX0 := (fun w h => (List.mem_cons_of_mem _ (List.mem_append_right _ h)) : ∀ w ∈ wsX00, w ∈ wsX0_addWinter)
  have k24 := hts (.fieldLink RX0 24 "CaveYears$Cave" "winterStart" "[I") (List.mem_of_getElem? (i := 2) rfl)
  have k27 := hts (.fieldLink RX0 27 "CaveYears$Cave" "winterEnd" "[I") (List.mem_of_getElem? (i := 3) rfl)
  refine lv_aload_n hx hb dX0_addWinter_0 rfl (lv_at hl 0 rfl) ?_
  refine va_get (D := D) (ci := 0) (v := .int v_winters) (C := RX0) (T := TX0) (N := 13) hx hb hts iX0 hown hK hP 0 rfl rfl 6 (by decide) k50 (fun _ h9 => h9) rfl dX0_addWinter_1 ?_
  refine lv_if_lt (tgt := 53) hx hb dX0_addWinter_4 (by decide) (fun c4 => ?_) (fun c4 => ?_)
  · have hM := g_pos c4 hM
    obtain ⟨rfl, rfl, rfl⟩ := si3 hM
    exact hret _ _ _ _ dX0_addWinter_53 hP hD hS
  · have hM := g_neg c4 hM
    refine lv_aload_n hx hb dX0_addWinter_7 rfl (lv_at hl 0 rfl) ?_
    refine va_get (D := D) (ci := 0) (v := .int v_winters) (C := RX0) (T := TX0) (N := 13) hx hb hts iX0 hown hK hP 0 rfl rfl 6 (by decide) k50 (fun _ h9 => h9) rfl dX0_addWinter_8 ?_
    refine lv_iconst (v := 5) hx hb dX0_addWinter_11 (by decide) ?_
    refine lv_icmp_ge (tgt := 53) hx hb dX0_addWinter_12 (by decide) (fun c12 => ?_) (fun c12 => ?_)
    · have hM := g_pos c12 hM
      obtain ⟨rfl, rfl, rfl⟩ := si3 hM
      exact hret _ _ _ _ dX0_addWinter_53 hP hD hS
    · have hM := g_neg c12 hM
      refine lv_aload_n hx hb dX0_addWinter_15 rfl (lv_at hl 0 rfl) ?_
      refine va_get (D := D) (ci := 0) (v := .ref h0_winterStart) (C := RX0) (T := TX0) (N := 13) hx hb hts iX0 hown hK hP 0 rfl rfl 11 (by decide) k24 (fun _ h9 => h9) rfl dX0_addWinter_16 ?_
      refine lv_aload_n hx hb dX0_addWinter_19 rfl (lv_at hl 0 rfl) ?_
      refine va_get (D := D) (ci := 0) (v := .int v_winters) (C := RX0) (T := TX0) (N := 13) hx hb hts iX0 hown hK hP 0 rfl rfl 6 (by decide) k50 (fun _ h9 => h9) rfl dX0_addWinter_20 ?_
      refine lv_bipush (v := 60) hx hb dX0_addWinter_23 (by decide) ?_
      refine lv_iload_n hx hb dX0_addWinter_25 rfl (lv_at hl 1 rfl) ?_
      refine lv_imul hx hb dX0_addWinter_26 ?_
      obtain ⟨h27, hM⟩ := gi_some hM
      refine va_iast hx hb hK hP hD hS 1 2 rfl rfl h27 dX0_addWinter_27 (fun H locs hP hD hS => ?_)
      have hP : va_P D vwCl [(h0, .inr (0, [oh0_0, oh0_1, oh0_2, oh0_3, oh0_4, oh0_5, .int v_winters, oh0_7, oh0_8, oh0_9, oh0_10, .ref h0_winterStart, .ref h0_winterEnd])), (h0_winterStart, .inl (cy 2, 5, .inl (upd v_winterStart v_winters.toNatClampNeg ((60 : Int32) * p1)))), (h0_winterEnd, .inl (cy 2, 5, .inl v_winterEnd))] H := hP
      have hD : va_D A [(h0, .inr (0, [oh0_0, oh0_1, oh0_2, oh0_3, oh0_4, oh0_5, .int v_winters, oh0_7, oh0_8, oh0_9, oh0_10, .ref h0_winterStart, .ref h0_winterEnd])), (h0_winterStart, .inl (cy 2, 5, .inl (upd v_winterStart v_winters.toNatClampNeg ((60 : Int32) * p1)))), (h0_winterEnd, .inl (cy 2, 5, .inl v_winterEnd))] := hD
      refine lv_aload_n hx hb dX0_addWinter_28 rfl (lv_at hl 0 rfl) ?_
      refine va_get (D := D) (ci := 0) (v := .ref h0_winterEnd) (C := RX0) (T := TX0) (N := 13) hx hb hts iX0 hown hK hP 0 rfl rfl 12 (by decide) k27 (fun _ h9 => h9) rfl dX0_addWinter_29 ?_
      refine lv_aload_n hx hb dX0_addWinter_32 rfl (lv_at hl 0 rfl) ?_
      refine va_get (D := D) (ci := 0) (v := .int v_winters) (C := RX0) (T := TX0) (N := 13) hx hb hts iX0 hown hK hP 0 rfl rfl 6 (by decide) k50 (fun _ h9 => h9) rfl dX0_addWinter_33 ?_
      refine lv_bipush (v := 60) hx hb dX0_addWinter_36 (by decide) ?_
      refine lv_iload_n hx hb dX0_addWinter_38 rfl (lv_at hl 1 rfl) ?_
      refine lv_iload_n hx hb dX0_addWinter_39 rfl (lv_at hl 2 rfl) ?_
      refine lv_iadd hx hb dX0_addWinter_40 ?_
      refine lv_imul hx hb dX0_addWinter_41 ?_
      obtain ⟨h42, hM⟩ := gi_some hM
      refine va_iast hx hb hK hP hD hS 2 2 rfl rfl h42 dX0_addWinter_42 (fun H locs hP hD hS => ?_)
      have hP : va_P D vwCl [(h0, .inr (0, [oh0_0, oh0_1, oh0_2, oh0_3, oh0_4, oh0_5, .int v_winters, oh0_7, oh0_8, oh0_9, oh0_10, .ref h0_winterStart, .ref h0_winterEnd])), (h0_winterStart, .inl (cy 2, 5, .inl (upd v_winterStart v_winters.toNatClampNeg ((60 : Int32) * p1)))), (h0_winterEnd, .inl (cy 2, 5, .inl (upd v_winterEnd v_winters.toNatClampNeg ((60 : Int32) * (p1 + p2)))))] H := hP
      have hD : va_D A [(h0, .inr (0, [oh0_0, oh0_1, oh0_2, oh0_3, oh0_4, oh0_5, .int v_winters, oh0_7, oh0_8, oh0_9, oh0_10, .ref h0_winterStart, .ref h0_winterEnd])), (h0_winterStart, .inl (cy 2, 5, .inl (upd v_winterStart v_winters.toNatClampNeg ((60 : Int32) * p1)))), (h0_winterEnd, .inl (cy 2, 5, .inl (upd v_winterEnd v_winters.toNatClampNeg ((60 : Int32) * (p1 + p2)))))] := hD
      refine lv_aload_n hx hb dX0_addWinter_43 rfl (lv_at hl 0 rfl) ?_
      refine lv_dup hx hb dX0_addWinter_44 rfl ?_
      refine va_get (D := D) (ci := 0) (v := .int v_winters) (C := RX0) (T := TX0) (N := 13) hx hb hts iX0 hown hK hP 0 rfl rfl 6 (by decide) k50 (fun _ h9 => h9) rfl dX0_addWinter_45 ?_
      refine lv_iconst (v := 1) hx hb dX0_addWinter_48 (by decide) ?_
      refine lv_iadd hx hb dX0_addWinter_49 ?_
      refine va_put (D := D) (ci := 0) (v := .int (v_winters + (1 : Int32))) (ty := .int) (C := RX0) (T := TX0) (N := 13) hx hb hts iX0 tyX0 tyX0_ok nmX0 hown hK hP hD hS 0 rfl rfl 6 (by decide) k50 (fun _ h9 => h9) rfl (by decide +kernel) rfl rfl (Nat.le_of_ble_eq_true rfl) dX0_addWinter_50 (fun H locs hP hD hS => ?_)
      have hP : va_P D vwCl [(h0, .inr (0, [oh0_0, oh0_1, oh0_2, oh0_3, oh0_4, oh0_5, .int (v_winters + (1 : Int32)), oh0_7, oh0_8, oh0_9, oh0_10, .ref h0_winterStart, .ref h0_winterEnd])), (h0_winterStart, .inl (cy 2, 5, .inl (upd v_winterStart v_winters.toNatClampNeg ((60 : Int32) * p1)))), (h0_winterEnd, .inl (cy 2, 5, .inl (upd v_winterEnd v_winters.toNatClampNeg ((60 : Int32) * (p1 + p2)))))] H := hP
      have hD : va_D A [(h0, .inr (0, [oh0_0, oh0_1, oh0_2, oh0_3, oh0_4, oh0_5, .int (v_winters + (1 : Int32)), oh0_7, oh0_8, oh0_9, oh0_10, .ref h0_winterStart, .ref h0_winterEnd])), (h0_winterStart, .inl (cy 2, 5, .inl (upd v_winterStart v_winters.toNatClampNeg ((60 : Int32) * p1)))), (h0_winterEnd, .inl (cy 2, 5, .inl (upd v_winterEnd v_winters.toNatClampNeg ((60 : Int32) * (p1 + p2)))))] := hD
      obtain ⟨rfl, rfl, rfl⟩ := si3 hM
      exact hret _ _ _ _ dX0_addWinter_53 hP hD hS
