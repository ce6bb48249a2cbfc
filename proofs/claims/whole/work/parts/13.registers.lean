-- ===== X4_has has (I)Z =====
abbrev r4_has : Room := { frames := 0, cells := 0, slots := 0, locals := 0 }
def f4_has (N : Nat) (p1 : Int32) (v_count : Int32) : Option Int32 :=
  if p1 < (0 : Int32) then (some (0 : Int32)) else (if v_count ≤ p1 then (some (0 : Int32)) else (if (8 : Int32) ≤ p1 then (some (0 : Int32)) else (some (1 : Int32))))
set_option maxHeartbeats 4000000 in
set_option maxRecDepth 100000 in
theorem c4_has (l : Launch) (D : va_G) (cy : Nat → ClassId) (N : Nat) (h0 : Nat) (oh0_1 oh0_2 oh0_3 : Value) (p1 : Int32) (v_count : Int32) (r : Int32) (hM : f4_has N p1 v_count = some r) (sz : Nat) : CTi l yX4_has wsX4_has r4_has [.ref h0, .int p1] D cy sz [(h0, .inr (4, [.int v_count, oh0_1, oh0_2, oh0_3]))] [(h0, .inr (4, [.int v_count, oh0_1, oh0_2, oh0_3]))] r := by
  unfold f4_has at hM
  refine ct_oi (cc := cX4_has) (maxL := 2) (ty := .boolean) (by decide +kernel) rfl (Nat.le_of_ble_eq_true rfl) (lv0 := [(0, .ref h0), (1, .int p1)]) rfl ?_
  intro p e s m args below meth c A Q ls hx hb hts hown hml hK hP hD hS hA hret hl
  have hown : s.vm.findClass RX4 = some m.cls := hown
  have k21 := hts (.fieldLink RX4 21 "CaveYears$Registers" "count" "I") (List.mem_of_getElem? (i := 1) rfl)
  have iX4 := (fun w h => (List.mem_cons_of_mem _ (List.mem_append_right _ h)) : ∀ w ∈ wsX40, w ∈ wsX4_has)
  refine lv_iload_n hx hb dX4_has_0 rfl (lv_at hl 1 rfl) ?_
  refine lv_if_lt (tgt := 22) hx hb dX4_has_1 (by decide) (fun c1 => ?_) (fun c1 => ?_)
  · have hM := g_pos c1 hM
    refine lv_iconst (v := 0) hx hb dX4_has_22 (by decide) ?_
    obtain rfl := si1 hM
    exact hret _ _ _ _ _ dX4_has_23 rfl rfl hP hD hS
  · have hM := g_neg c1 hM
    refine lv_iload_n hx hb dX4_has_4 rfl (lv_at hl 1 rfl) ?_
    refine lv_aload_n hx hb dX4_has_5 rfl (lv_at hl 0 rfl) ?_
    refine va_get (D := D) (ci := 4) (v := .int v_count) (C := RX4) (T := TX4) (N := 4) hx hb hts iX4 hown hK hP 0 rfl rfl 0 (by decide) k21 (fun _ h9 => h9) rfl dX4_has_6 ?_
    refine lv_icmp_ge (tgt := 22) hx hb dX4_has_9 (by decide) (fun c9 => ?_) (fun c9 => ?_)
    · have hM := g_pos c9 hM
      refine lv_iconst (v := 0) hx hb dX4_has_22 (by decide) ?_
      obtain rfl := si1 hM
      exact hret _ _ _ _ _ dX4_has_23 rfl rfl hP hD hS
    · have hM := g_neg c9 hM
      refine lv_iload_n hx hb dX4_has_12 rfl (lv_at hl 1 rfl) ?_
      refine lv_bipush (v := 8) hx hb dX4_has_13 (by decide) ?_
      refine lv_icmp_ge (tgt := 22) hx hb dX4_has_15 (by decide) (fun c15 => ?_) (fun c15 => ?_)
      · have hM := g_pos c15 hM
        refine lv_iconst (v := 0) hx hb dX4_has_22 (by decide) ?_
        obtain rfl := si1 hM
        exact hret _ _ _ _ _ dX4_has_23 rfl rfl hP hD hS
      · have hM := g_neg c15 hM
        refine lv_iconst (v := 1) hx hb dX4_has_18 (by decide) ?_
        refine lv_goto (tgt := 23) hx hb dX4_has_19 (by decide) ?_
        obtain rfl := si1 hM
        exact hret _ _ _ _ _ dX4_has_23 rfl rfl hP hD hS

-- ===== X4_add add (II)I =====
abbrev r4_add : Room := { frames := 0, cells := 0, slots := 0, locals := 0 }
def f4_add (N : Nat) (p1 : Int32) (p2 : Int32) (v_count : Int32) (v_date : Nat → Int32) (v_age : Nat → Int32) : Option (Int32 × Int32 × (Nat → Int32) × (Nat → Int32)) :=
  if v_count < (0 : Int32) then (some ((-1000000004 : Int32), v_count, v_date, v_age)) else (if v_count < (8 : Int32) then (gi v_count 8 (gi v_count 8 (some ((v_count + (1 : Int32)), (v_count + (1 : Int32)), (upd v_date v_count.toNatClampNeg p1), (upd v_age v_count.toNatClampNeg p2))))) else (some ((-1000000004 : Int32), v_count, v_date, v_age)))
set_option maxHeartbeats 4000000 in
set_option maxRecDepth 100000 in
theorem c4_add (l : Launch) (D : va_G) (cy : Nat → ClassId) (N : Nat) (h0 h0_date h0_age : Nat) (oh0_1 : Value) (p1 : Int32) (p2 : Int32) (v_count : Int32) (v_date : Nat → Int32) (v_age : Nat → Int32) (r : Int32) (nv_count : Int32) (nv_date : Nat → Int32) (nv_age : Nat → Int32) (hM : f4_add N p1 p2 v_count v_date v_age = some (r, nv_count, nv_date, nv_age)) (sz : Nat) : CTi l yX4_add wsX4_add r4_add [.ref h0, .int p1, .int p2] D cy sz [(h0, .inr (4, [.int v_count, oh0_1, .ref h0_date, .ref h0_age])), (h0_date, .inl (cy 2, 8, .inl v_date)), (h0_age, .inl (cy 2, 8, .inl v_age))] [(h0, .inr (4, [.int nv_count, oh0_1, .ref h0_date, .ref h0_age])), (h0_date, .inl (cy 2, 8, .inl nv_date)), (h0_age, .inl (cy 2, 8, .inl nv_age))] r := by
  unfold f4_add at hM
  refine ct_oi (cc := cX4_add) (maxL := 3) (ty := .int) (by decide +kernel) rfl (Nat.le_of_ble_eq_true rfl) (lv0 := [(0, .ref h0), (1, .int p1), (2, .int p2)]) rfl ?_
  intro p e s m args below meth c A Q ls hx hb hts hown hml hK hP hD hS hA hret hl
  have hown : s.vm.findClass RX4 = some m.cls := hown
  have k21 := hts (.fieldLink RX4 21 "CaveYears$Registers" "count" "I") (List.mem_of_getElem? (i := 1) rfl)
  have iX4 := (fun w h => (List.mem_cons_of_mem _ (List.mem_append_right _ h)) : ∀ w ∈ wsX40, w ∈ wsX4_add)
  have k25 := hts (.constant RX4 25 (-1000000004)) (List.mem_of_getElem? (i := 2) rfl)
  have k15 := hts (.fieldLink RX4 15 "CaveYears$Registers" "date" "[I") (List.mem_of_getElem? (i := 3) rfl)
  have k18 := hts (.fieldLink RX4 18 "CaveYears$Registers" "age" "[I") (List.mem_of_getElem? (i := 4) rfl)
  refine lv_aload_n hx hb dX4_add_0 rfl (lv_at hl 0 rfl) ?_
  refine va_get (D := D) (ci := 4) (v := .int v_count) (C := RX4) (T := TX4) (N := 4) hx hb hts iX4 hown hK hP 0 rfl rfl 0 (by decide) k21 (fun _ h9 => h9) rfl dX4_add_1 ?_
  refine lv_if_lt (tgt := 16) hx hb dX4_add_4 (by decide) (fun c4 => ?_) (fun c4 => ?_)
  · have hM := g_pos c4 hM
    refine lv_ldc (v := -1000000004) hx hb hown k25 dX4_add_16 ?_
    obtain ⟨rfl, rfl, rfl, rfl⟩ := si4 hM
    exact hret _ _ _ _ _ dX4_add_18 rfl rfl hP hD hS
  · have hM := g_neg c4 hM
    refine lv_aload_n hx hb dX4_add_7 rfl (lv_at hl 0 rfl) ?_
    refine va_get (D := D) (ci := 4) (v := .int v_count) (C := RX4) (T := TX4) (N := 4) hx hb hts iX4 hown hK hP 0 rfl rfl 0 (by decide) k21 (fun _ h9 => h9) rfl dX4_add_8 ?_
    refine lv_bipush (v := 8) hx hb dX4_add_11 (by decide) ?_
    refine lv_icmp_lt (tgt := 19) hx hb dX4_add_13 (by decide) (fun c13 => ?_) (fun c13 => ?_)
    · have hM := g_pos c13 hM
      refine lv_aload_n hx hb dX4_add_19 rfl (lv_at hl 0 rfl) ?_
      refine va_get (D := D) (ci := 4) (v := .ref h0_date) (C := RX4) (T := TX4) (N := 4) hx hb hts iX4 hown hK hP 0 rfl rfl 2 (by decide) k15 (fun _ h9 => h9) rfl dX4_add_20 ?_
      refine lv_aload_n hx hb dX4_add_23 rfl (lv_at hl 0 rfl) ?_
      refine va_get (D := D) (ci := 4) (v := .int v_count) (C := RX4) (T := TX4) (N := 4) hx hb hts iX4 hown hK hP 0 rfl rfl 0 (by decide) k21 (fun _ h9 => h9) rfl dX4_add_24 ?_
      refine lv_iload_n hx hb dX4_add_27 rfl (lv_at hl 1 rfl) ?_
      obtain ⟨h28, hM⟩ := gi_some hM
      refine va_iast hx hb hK hP hD hS 1 2 rfl rfl h28 dX4_add_28 (fun H locs hP hD hS => ?_)
      have hP : va_P D vwCl [(h0, .inr (4, [.int v_count, oh0_1, .ref h0_date, .ref h0_age])), (h0_date, .inl (cy 2, 8, .inl (upd v_date v_count.toNatClampNeg p1))), (h0_age, .inl (cy 2, 8, .inl v_age))] H := hP
      have hD : va_D A [(h0, .inr (4, [.int v_count, oh0_1, .ref h0_date, .ref h0_age])), (h0_date, .inl (cy 2, 8, .inl (upd v_date v_count.toNatClampNeg p1))), (h0_age, .inl (cy 2, 8, .inl v_age))] := hD
      refine lv_aload_n hx hb dX4_add_29 rfl (lv_at hl 0 rfl) ?_
      refine va_get (D := D) (ci := 4) (v := .ref h0_age) (C := RX4) (T := TX4) (N := 4) hx hb hts iX4 hown hK hP 0 rfl rfl 3 (by decide) k18 (fun _ h9 => h9) rfl dX4_add_30 ?_
      refine lv_aload_n hx hb dX4_add_33 rfl (lv_at hl 0 rfl) ?_
      refine va_get (D := D) (ci := 4) (v := .int v_count) (C := RX4) (T := TX4) (N := 4) hx hb hts iX4 hown hK hP 0 rfl rfl 0 (by decide) k21 (fun _ h9 => h9) rfl dX4_add_34 ?_
      refine lv_iload_n hx hb dX4_add_37 rfl (lv_at hl 2 rfl) ?_
      obtain ⟨h38, hM⟩ := gi_some hM
      refine va_iast hx hb hK hP hD hS 2 2 rfl rfl h38 dX4_add_38 (fun H locs hP hD hS => ?_)
      have hP : va_P D vwCl [(h0, .inr (4, [.int v_count, oh0_1, .ref h0_date, .ref h0_age])), (h0_date, .inl (cy 2, 8, .inl (upd v_date v_count.toNatClampNeg p1))), (h0_age, .inl (cy 2, 8, .inl (upd v_age v_count.toNatClampNeg p2)))] H := hP
      have hD : va_D A [(h0, .inr (4, [.int v_count, oh0_1, .ref h0_date, .ref h0_age])), (h0_date, .inl (cy 2, 8, .inl (upd v_date v_count.toNatClampNeg p1))), (h0_age, .inl (cy 2, 8, .inl (upd v_age v_count.toNatClampNeg p2)))] := hD
      refine lv_aload_n hx hb dX4_add_39 rfl (lv_at hl 0 rfl) ?_
      refine lv_dup hx hb dX4_add_40 rfl ?_
      refine va_get (D := D) (ci := 4) (v := .int v_count) (C := RX4) (T := TX4) (N := 4) hx hb hts iX4 hown hK hP 0 rfl rfl 0 (by decide) k21 (fun _ h9 => h9) rfl dX4_add_41 ?_
      refine lv_iconst (v := 1) hx hb dX4_add_44 (by decide) ?_
      refine lv_iadd hx hb dX4_add_45 ?_
      refine va_put (D := D) (ci := 4) (v := .int (v_count + (1 : Int32))) (ty := .int) (C := RX4) (T := TX4) (N := 4) hx hb hts iX4 tyX4 tyX4_ok nmX4 hown hK hP hD hS 0 rfl rfl 0 (by decide) k21 (fun _ h9 => h9) rfl (by decide +kernel) rfl rfl (Nat.le_of_ble_eq_true rfl) dX4_add_46 (fun H locs hP hD hS => ?_)
      have hP : va_P D vwCl [(h0, .inr (4, [.int (v_count + (1 : Int32)), oh0_1, .ref h0_date, .ref h0_age])), (h0_date, .inl (cy 2, 8, .inl (upd v_date v_count.toNatClampNeg p1))), (h0_age, .inl (cy 2, 8, .inl (upd v_age v_count.toNatClampNeg p2)))] H := hP
      have hD : va_D A [(h0, .inr (4, [.int (v_count + (1 : Int32)), oh0_1, .ref h0_date, .ref h0_age])), (h0_date, .inl (cy 2, 8, .inl (upd v_date v_count.toNatClampNeg p1))), (h0_age, .inl (cy 2, 8, .inl (upd v_age v_count.toNatClampNeg p2)))] := hD
      refine lv_aload_n hx hb dX4_add_49 rfl (lv_at hl 0 rfl) ?_
      refine va_get (D := D) (ci := 4) (v := .int (v_count + (1 : Int32))) (C := RX4) (T := TX4) (N := 4) hx hb hts iX4 hown hK hP 0 rfl rfl 0 (by decide) k21 (fun _ h9 => h9) rfl dX4_add_50 ?_
      obtain ⟨rfl, rfl, rfl, rfl⟩ := si4 hM
      exact hret _ _ _ _ _ dX4_add_53 rfl rfl hP hD hS
    · have hM := g_neg c13 hM
      refine lv_ldc (v := -1000000004) hx hb hown k25 dX4_add_16 ?_
      obtain ⟨rfl, rfl, rfl, rfl⟩ := si4 hM
      exact hret _ _ _ _ _ dX4_add_18 rfl rfl hP hD hS

-- ===== X4_agree agree (II)Z =====
abbrev r4_agree : Room := { frames := 1, cells := 0, slots := 0, locals := 21 }
def f4_agree (N : Nat) (p1 : Int32) (p2 : Int32) (v_count : Int32) (v_date : Nat → Int32) (v_age : Nat → Int32) : Option Int32 :=
  ob1 (f4_has N p1 v_count) fun r2 => if r2 = (0 : Int32) then (some (0 : Int32)) else (ob1 (f4_has N p2 v_count) fun r10 => if r10 = (0 : Int32) then (some (0 : Int32)) else (gi p2 8 (gi p1 8 (gi p2 8 (gi p1 8 (if ((v_date p2.toNatClampNeg) - (v_date p1.toNatClampNeg)) < (0 : Int32) then (if (0 : Int32) < ((v_age p2.toNatClampNeg) - (v_age p1.toNatClampNeg)) then (some (0 : Int32)) else (if ((v_age p2.toNatClampNeg) - (v_age p1.toNatClampNeg)) < ((v_date p2.toNatClampNeg) - (v_date p1.toNatClampNeg)) then (some (0 : Int32)) else (some (1 : Int32)))) else (if ((v_age p2.toNatClampNeg) - (v_age p1.toNatClampNeg)) < (0 : Int32) then (some (0 : Int32)) else (if ((v_date p2.toNatClampNeg) - (v_date p1.toNatClampNeg)) < ((v_age p2.toNatClampNeg) - (v_age p1.toNatClampNeg)) then (some (0 : Int32)) else (some (1 : Int32))))))))))
set_option maxHeartbeats 4000000 in
set_option maxRecDepth 100000 in
theorem c4_agree (l : Launch) (D : va_G) (cy : Nat → ClassId) (N : Nat) (h0 h0_date h0_age : Nat) (oh0_1 : Value) (p1 : Int32) (p2 : Int32) (v_count : Int32) (v_date : Nat → Int32) (v_age : Nat → Int32) (r : Int32) (hM : f4_agree N p1 p2 v_count v_date v_age = some r) (sz : Nat) : CTi l yX4_agree wsX4_agree r4_agree [.ref h0, .int p1, .int p2] D cy sz [(h0, .inr (4, [.int v_count, oh0_1, .ref h0_date, .ref h0_age])), (h0_date, .inl (cy 2, 8, .inl v_date)), (h0_age, .inl (cy 2, 8, .inl v_age))] [(h0, .inr (4, [.int v_count, oh0_1, .ref h0_date, .ref h0_age])), (h0_date, .inl (cy 2, 8, .inl v_date)), (h0_age, .inl (cy 2, 8, .inl v_age))] r := by
  unfold f4_agree at hM
  refine ct_oi (cc := cX4_agree) (maxL := 5) (ty := .boolean) (by decide +kernel) rfl (Nat.le_of_ble_eq_true rfl) (lv0 := [(0, .ref h0), (1, .int p1), (2, .int p2)]) rfl ?_
  intro p e s m args below meth c A Q ls hx hb hts hown hml hK hP hD hS hA hret hl
  have hown : s.vm.findClass RX4 = some m.cls := hown
  have k15 := hts (.fieldLink RX4 15 "CaveYears$Registers" "date" "[I") (List.mem_of_getElem? (i := 1) rfl)
  have iX4 := (fun w h => (List.mem_cons_of_mem _ (List.mem_append_right _ h)) : ∀ w ∈ wsX40, w ∈ wsX4_agree)
  have k18 := hts (.fieldLink RX4 18 "CaveYears$Registers" "age" "[I") (List.mem_of_getElem? (i := 2) rfl)
  refine lv_aload_n hx hb dX4_agree_0 rfl (lv_at hl 0 rfl) ?_
  refine lv_iload_n hx hb dX4_agree_1 rfl (lv_at hl 1 rfl) ?_
  obtain ⟨r2, hc2, hM⟩ := ob1_some hM
  refine cl_vi (As := [.int p1]) (rest := []) (ci := 4) (q0 := 0) (wr := [(h0_date, .inl (cy 2, 8, .inl v_date)), (h0_age, .inl (cy 2, 8, .inl v_age))]) (ws2 := [(h0, .inr (4, [.int v_count, oh0_1, .ref h0_date, .ref h0_age])), (h0_date, .inl (cy 2, 8, .inl v_date)), (h0_age, .inl (cy 2, 8, .inl v_age))]) (isC := [0]) (isR := [1, 2]) (pm := [2, 0, 1]) hx hb hml hown hts (c4_has l D cy N h0 oh0_1 (.ref h0_date) (.ref h0_age) p1 v_count r2 hc2) (cwV 1 hts gX4_agree_X4_has rfl rfl rfl (by decide +kernel) ⟨Nat.le_of_ble_eq_true rfl, Nat.le_of_ble_eq_true rfl⟩) hK hP hD hS hA rfl rfl rfl rfl rfl (by decide) rfl rfl rfl hl.1 (Nat.le_of_ble_eq_true rfl) dX4_agree_2 ⟨Nat.zero_le _, Nat.zero_le _⟩ rfl rfl (fun H locs hP hD hS => ?_)
  refine lv_if_eq (tgt := 16) hx hb dX4_agree_5 (by decide) (fun c5 => ?_) (fun c5 => ?_)
  · have hM := g_pos c5 hM
    refine lv_iconst (v := 0) hx hb dX4_agree_16 (by decide) ?_
    obtain rfl := si1 hM
    exact hret _ _ _ _ _ dX4_agree_17 rfl rfl hP hD hS
  · have hM := g_neg c5 hM
    refine lv_aload_n hx hb dX4_agree_8 rfl (lv_at hl 0 rfl) ?_
    refine lv_iload_n hx hb dX4_agree_9 rfl (lv_at hl 2 rfl) ?_
    obtain ⟨r10, hc10, hM⟩ := ob1_some hM
    refine cl_vi (As := [.int p2]) (rest := []) (ci := 4) (q0 := 0) (wr := [(h0_date, .inl (cy 2, 8, .inl v_date)), (h0_age, .inl (cy 2, 8, .inl v_age))]) (ws2 := [(h0, .inr (4, [.int v_count, oh0_1, .ref h0_date, .ref h0_age])), (h0_date, .inl (cy 2, 8, .inl v_date)), (h0_age, .inl (cy 2, 8, .inl v_age))]) (isC := [0]) (isR := [1, 2]) (pm := [2, 0, 1]) hx hb hml hown hts (c4_has l D cy N h0 oh0_1 (.ref h0_date) (.ref h0_age) p2 v_count r10 hc10) (cwV 1 hts gX4_agree_X4_has rfl rfl rfl (by decide +kernel) ⟨Nat.le_of_ble_eq_true rfl, Nat.le_of_ble_eq_true rfl⟩) hK hP hD hS hA rfl rfl rfl rfl rfl (by decide) rfl rfl rfl hl.1 (Nat.le_of_ble_eq_true rfl) dX4_agree_10 ⟨Nat.zero_le _, Nat.zero_le _⟩ rfl rfl (fun H locs hP hD hS => ?_)
    refine lv_if_ne (tgt := 18) hx hb dX4_agree_13 (by decide) (fun c13 => ?_) (fun c13 => ?_)
    · have hM := g_neg c13 hM
      refine lv_aload_n hx hb dX4_agree_18 rfl (lv_at hl 0 rfl) ?_
      refine va_get (D := D) (ci := 4) (v := .ref h0_date) (C := RX4) (T := TX4) (N := 4) hx hb hts iX4 hown hK hP 0 rfl rfl 2 (by decide) k15 (fun _ h9 => h9) rfl dX4_agree_19 ?_
      refine lv_iload_n hx hb dX4_agree_22 rfl (lv_at hl 2 rfl) ?_
      obtain ⟨h23, hM⟩ := gi_some hM
      refine va_iald hx hb hK hP 1 2 rfl rfl h23 dX4_agree_23 ?_
      refine lv_aload_n hx hb dX4_agree_24 rfl (lv_at hl 0 rfl) ?_
      refine va_get (D := D) (ci := 4) (v := .ref h0_date) (C := RX4) (T := TX4) (N := 4) hx hb hts iX4 hown hK hP 0 rfl rfl 2 (by decide) k15 (fun _ h9 => h9) rfl dX4_agree_25 ?_
      refine lv_iload_n hx hb dX4_agree_28 rfl (lv_at hl 1 rfl) ?_
      obtain ⟨h29, hM⟩ := gi_some hM
      refine va_iald hx hb hK hP 1 2 rfl rfl h29 dX4_agree_29 ?_
      refine lv_isub hx hb dX4_agree_30 ?_
      refine lv_istore_n (lv' := [(3, .int ((v_date p2.toNatClampNeg) - (v_date p1.toNatClampNeg))), (0, .ref h0), (1, .int p1), (2, .int p2)]) hx hb dX4_agree_31 rfl hl (by decide) rfl (fun ls hl => ?_)
      refine lv_aload_n hx hb dX4_agree_32 rfl (lv_at hl 1 rfl) ?_
      refine va_get (D := D) (ci := 4) (v := .ref h0_age) (C := RX4) (T := TX4) (N := 4) hx hb hts iX4 hown hK hP 0 rfl rfl 3 (by decide) k18 (fun _ h9 => h9) rfl dX4_agree_33 ?_
      refine lv_iload_n hx hb dX4_agree_36 rfl (lv_at hl 3 rfl) ?_
      obtain ⟨h37, hM⟩ := gi_some hM
      refine va_iald hx hb hK hP 2 2 rfl rfl h37 dX4_agree_37 ?_
      refine lv_aload_n hx hb dX4_agree_38 rfl (lv_at hl 1 rfl) ?_
      refine va_get (D := D) (ci := 4) (v := .ref h0_age) (C := RX4) (T := TX4) (N := 4) hx hb hts iX4 hown hK hP 0 rfl rfl 3 (by decide) k18 (fun _ h9 => h9) rfl dX4_agree_39 ?_
      refine lv_iload_n hx hb dX4_agree_42 rfl (lv_at hl 2 rfl) ?_
      obtain ⟨h43, hM⟩ := gi_some hM
      refine va_iald hx hb hK hP 2 2 rfl rfl h43 dX4_agree_43 ?_
      refine lv_isub hx hb dX4_agree_44 ?_
      refine lv_istore (lv' := [(4, .int ((v_age p2.toNatClampNeg) - (v_age p1.toNatClampNeg))), (3, .int ((v_date p2.toNatClampNeg) - (v_date p1.toNatClampNeg))), (0, .ref h0), (1, .int p1), (2, .int p2)]) hx hb dX4_agree_45 hl (by decide) rfl (fun ls hl => ?_)
      refine lv_iload_n hx hb dX4_agree_47 rfl (lv_at hl 1 rfl) ?_
      refine lv_if_lt (tgt := 70) hx hb dX4_agree_48 (by decide) (fun c48 => ?_) (fun c48 => ?_)
      · have hM := g_pos c48 hM
        refine lv_iload hx hb dX4_agree_70 (lv_at hl 0 rfl) ?_
        refine lv_if_gt (tgt := 85) hx hb dX4_agree_72 (by decide) (fun c72 => ?_) (fun c72 => ?_)
        · have hM := g_pos c72 hM
          refine lv_iconst (v := 0) hx hb dX4_agree_85 (by decide) ?_
          obtain rfl := si1 hM
          exact hret _ _ _ _ _ dX4_agree_86 rfl rfl hP hD hS
        · have hM := g_neg c72 hM
          refine lv_iload hx hb dX4_agree_75 (lv_at hl 0 rfl) ?_
          refine lv_iload_n hx hb dX4_agree_77 rfl (lv_at hl 1 rfl) ?_
          refine lv_icmp_lt (tgt := 85) hx hb dX4_agree_78 (by decide) (fun c78 => ?_) (fun c78 => ?_)
          · have hM := g_pos c78 hM
            refine lv_iconst (v := 0) hx hb dX4_agree_85 (by decide) ?_
            obtain rfl := si1 hM
            exact hret _ _ _ _ _ dX4_agree_86 rfl rfl hP hD hS
          · have hM := g_neg c78 hM
            refine lv_iconst (v := 1) hx hb dX4_agree_81 (by decide) ?_
            refine lv_goto (tgt := 86) hx hb dX4_agree_82 (by decide) ?_
            obtain rfl := si1 hM
            exact hret _ _ _ _ _ dX4_agree_86 rfl rfl hP hD hS
      · have hM := g_neg c48 hM
        refine lv_iload hx hb dX4_agree_51 (lv_at hl 0 rfl) ?_
        refine lv_if_lt (tgt := 66) hx hb dX4_agree_53 (by decide) (fun c53 => ?_) (fun c53 => ?_)
        · have hM := g_pos c53 hM
          refine lv_iconst (v := 0) hx hb dX4_agree_66 (by decide) ?_
          refine lv_goto (tgt := 86) hx hb dX4_agree_67 (by decide) ?_
          obtain rfl := si1 hM
          exact hret _ _ _ _ _ dX4_agree_86 rfl rfl hP hD hS
        · have hM := g_neg c53 hM
          refine lv_iload hx hb dX4_agree_56 (lv_at hl 0 rfl) ?_
          refine lv_iload_n hx hb dX4_agree_58 rfl (lv_at hl 1 rfl) ?_
          refine lv_icmp_gt (tgt := 66) hx hb dX4_agree_59 (by decide) (fun c59 => ?_) (fun c59 => ?_)
          · have hM := g_pos c59 hM
            refine lv_iconst (v := 0) hx hb dX4_agree_66 (by decide) ?_
            refine lv_goto (tgt := 86) hx hb dX4_agree_67 (by decide) ?_
            obtain rfl := si1 hM
            exact hret _ _ _ _ _ dX4_agree_86 rfl rfl hP hD hS
          · have hM := g_neg c59 hM
            refine lv_iconst (v := 1) hx hb dX4_agree_62 (by decide) ?_
            refine lv_goto (tgt := 86) hx hb dX4_agree_63 (by decide) ?_
            obtain rfl := si1 hM
            exact hret _ _ _ _ _ dX4_agree_86 rfl rfl hP hD hS
    · have hM := g_pos c13 hM
      refine lv_iconst (v := 0) hx hb dX4_agree_16 (by decide) ?_
      obtain rfl := si1 hM
      exact hret _ _ _ _ _ dX4_agree_17 rfl rfl hP hD hS

-- ===== X4_canJoin canJoin (II)Z =====
abbrev r4_canJoin : Room := { frames := 2, cells := 0, slots := 0, locals := 45 }
def f4_canJoin_L2 (N : Nat) (p1 : Int32) (p2 : Int32) (v_count : Int32) (v_man : Nat → Int32) (v_date : Nat → Int32) (v_age : Nat → Int32) : Nat → Int32 → Option Int32
  | 0, _ => none
  | n + 1, x3_2 => if p1 ≤ x3_2 then (some (1 : Int32)) else (if (8 : Int32) ≤ x3_2 then (some (1 : Int32)) else (gi x3_2 8 (if (v_man x3_2.toNatClampNeg) = p2 then (ob1 (f4_agree N x3_2 p1 v_count v_date v_age) fun r26 => if r26 = (0 : Int32) then (some (0 : Int32)) else ((f4_canJoin_L2 N p1 p2 v_count v_man v_date v_age n) (x3_2 + (1 : Int32)))) else ((f4_canJoin_L2 N p1 p2 v_count v_man v_date v_age n) (x3_2 + (1 : Int32))))))
def f4_canJoin (N : Nat) (p1 : Int32) (p2 : Int32) (v_count : Int32) (v_man : Nat → Int32) (v_date : Nat → Int32) (v_age : Nat → Int32) : Option Int32 :=
  f4_canJoin_L2 N p1 p2 v_count v_man v_date v_age N (0 : Int32)
set_option maxHeartbeats 4000000 in
set_option maxRecDepth 100000 in
theorem c4_canJoin (l : Launch) (D : va_G) (cy : Nat → ClassId) (N : Nat) (h0 h0_man h0_date h0_age : Nat) (p1 : Int32) (p2 : Int32) (v_count : Int32) (v_man : Nat → Int32) (v_date : Nat → Int32) (v_age : Nat → Int32) (r : Int32) (hM : f4_canJoin N p1 p2 v_count v_man v_date v_age = some r) (sz : Nat) : CTi l yX4_canJoin wsX4_canJoin r4_canJoin [.ref h0, .int p1, .int p2] D cy sz [(h0, .inr (4, [.int v_count, .ref h0_man, .ref h0_date, .ref h0_age])), (h0_man, .inl (cy 2, 8, .inl v_man)), (h0_date, .inl (cy 2, 8, .inl v_date)), (h0_age, .inl (cy 2, 8, .inl v_age))] [(h0, .inr (4, [.int v_count, .ref h0_man, .ref h0_date, .ref h0_age])), (h0_man, .inl (cy 2, 8, .inl v_man)), (h0_date, .inl (cy 2, 8, .inl v_date)), (h0_age, .inl (cy 2, 8, .inl v_age))] r := by
  unfold f4_canJoin at hM
  refine ct_oi (cc := cX4_canJoin) (maxL := 4) (ty := .boolean) (by decide +kernel) rfl (Nat.le_of_ble_eq_true rfl) (lv0 := [(0, .ref h0), (1, .int p1), (2, .int p2)]) rfl ?_
  intro p e s m args below meth c A Q ls hx hb hts hown hml hK hP hD hS hA hret hl
  have hown : s.vm.findClass RX4 = some m.cls := hown
  have k9 := hts (.fieldLink RX4 9 "CaveYears$Registers" "man" "[I") (List.mem_of_getElem? (i := 1) rfl)
  have iX4 := (fun w h => (List.mem_cons_of_mem _ (List.mem_append_right _ h)) : ∀ w ∈ wsX40, w ∈ wsX4_canJoin)
  refine lv_iconst (v := 0) hx hb dX4_canJoin_0 (by decide) ?_
  refine lv_istore_n (lv' := [(3, .int (0 : Int32)), (0, .ref h0), (1, .int p1), (2, .int p2)]) hx hb dX4_canJoin_1 rfl hl (by decide) rfl (fun ls hl => ?_)
  have L2 : ∀ (n : Nat) (x3_2 : Int32) (H : Heap) (locs : List Loc) (ls : Array Slot), f4_canJoin_L2 N p1 p2 v_count v_man v_date v_age n x3_2 = some r → va_P D vwCl [(h0, .inr (4, [.int v_count, .ref h0_man, .ref h0_date, .ref h0_age])), (h0_man, .inl (cy 2, 8, .inl v_man)), (h0_date, .inl (cy 2, 8, .inl v_date)), (h0_age, .inl (cy 2, 8, .inl v_age))] H → va_D A [(h0, .inr (4, [.int v_count, .ref h0_man, .ref h0_date, .ref h0_age])), (h0_man, .inl (cy 2, 8, .inl v_man)), (h0_date, .inl (cy 2, 8, .inl v_date)), (h0_age, .inl (cy 2, 8, .inl v_age))] → va_S A s.heap H locs → lv_has ls 4 [(0, .ref h0), (1, .int p1), (2, .int p2), (3, .int x3_2)] → W p l e r4_canJoin s m args below meth c H locs 0 0 Q (F0 m 2 ls []) := by
    intro n
    induction n with
    | zero =>
      intro x3_2 H locs ls hM
      exact absurd hM (by simp [f4_canJoin_L2])
    | succ n ih =>
      intro x3_2 H locs ls hM hP hD hS hl
      rw [f4_canJoin_L2] at hM
      refine lv_iload_n hx hb dX4_canJoin_2 rfl (lv_at hl 3 rfl) ?_
      refine lv_iload_n hx hb dX4_canJoin_3 rfl (lv_at hl 1 rfl) ?_
      refine lv_icmp_ge (tgt := 40) hx hb dX4_canJoin_4 (by decide) (fun c4 => ?_) (fun c4 => ?_)
      · have hM := g_pos c4 hM
        refine lv_iconst (v := 1) hx hb dX4_canJoin_40 (by decide) ?_
        obtain rfl := si1 hM
        exact hret _ _ _ _ _ dX4_canJoin_41 rfl rfl hP hD hS
      · have hM := g_neg c4 hM
        refine lv_iload_n hx hb dX4_canJoin_7 rfl (lv_at hl 3 rfl) ?_
        refine lv_bipush (v := 8) hx hb dX4_canJoin_8 (by decide) ?_
        refine lv_icmp_ge (tgt := 40) hx hb dX4_canJoin_10 (by decide) (fun c10 => ?_) (fun c10 => ?_)
        · have hM := g_pos c10 hM
          refine lv_iconst (v := 1) hx hb dX4_canJoin_40 (by decide) ?_
          obtain rfl := si1 hM
          exact hret _ _ _ _ _ dX4_canJoin_41 rfl rfl hP hD hS
        · have hM := g_neg c10 hM
          refine lv_aload_n hx hb dX4_canJoin_13 rfl (lv_at hl 0 rfl) ?_
          refine va_get (D := D) (ci := 4) (v := .ref h0_man) (C := RX4) (T := TX4) (N := 4) hx hb hts iX4 hown hK hP 0 rfl rfl 1 (by decide) k9 (fun _ h9 => h9) rfl dX4_canJoin_14 ?_
          refine lv_iload_n hx hb dX4_canJoin_17 rfl (lv_at hl 3 rfl) ?_
          obtain ⟨h18, hM⟩ := gi_some hM
          refine va_iald hx hb hK hP 1 2 rfl rfl h18 dX4_canJoin_18 ?_
          refine lv_iload_n hx hb dX4_canJoin_19 rfl (lv_at hl 2 rfl) ?_
          refine lv_icmp_ne (tgt := 34) hx hb dX4_canJoin_20 (by decide) (fun c20 => ?_) (fun c20 => ?_)
          · have hM := g_neg c20 hM
            refine lv_iinc (v := x3_2 + (1 : Int32)) (lv' := [(3, .int (x3_2 + (1 : Int32))), (0, .ref h0), (1, .int p1), (2, .int p2)]) hx hb dX4_canJoin_34 hl (k := 3) rfl rfl (by decide) rfl (fun ls hl => ?_)
            refine lv_goto (tgt := 2) hx hb dX4_canJoin_37 (by decide) ?_
            exact ih (x3_2 + (1 : Int32)) _ _ _ hM hP hD hS (lv_sub hl [1, 2, 3, 0] rfl)
          · have hM := g_pos c20 hM
            refine lv_aload_n hx hb dX4_canJoin_23 rfl (lv_at hl 0 rfl) ?_
            refine lv_iload_n hx hb dX4_canJoin_24 rfl (lv_at hl 3 rfl) ?_
            refine lv_iload_n hx hb dX4_canJoin_25 rfl (lv_at hl 1 rfl) ?_
            obtain ⟨r26, hc26, hM⟩ := ob1_some hM
            refine cl_vi (As := [.int x3_2, .int p1]) (rest := []) (ci := 4) (q0 := 0) (wr := [(h0_man, .inl (cy 2, 8, .inl v_man))]) (ws2 := [(h0, .inr (4, [.int v_count, .ref h0_man, .ref h0_date, .ref h0_age])), (h0_man, .inl (cy 2, 8, .inl v_man)), (h0_date, .inl (cy 2, 8, .inl v_date)), (h0_age, .inl (cy 2, 8, .inl v_age))]) (isC := [0, 2, 3]) (isR := [1]) (pm := [1, 0, 2, 3]) hx hb hml hown hts (c4_agree l D cy N h0 h0_date h0_age (.ref h0_man) x3_2 p1 v_count v_date v_age r26 hc26) (cwV 2 hts gX4_canJoin_X4_agree rfl rfl rfl (by decide +kernel) ⟨Nat.le_of_ble_eq_true rfl, Nat.le_of_ble_eq_true rfl⟩) hK hP hD hS hA rfl rfl rfl rfl rfl (by decide) rfl rfl rfl hl.1 (Nat.le_of_ble_eq_true rfl) dX4_canJoin_26 ⟨Nat.zero_le _, Nat.zero_le _⟩ rfl rfl (fun H locs hP hD hS => ?_)
            refine lv_if_ne (tgt := 34) hx hb dX4_canJoin_29 (by decide) (fun c29 => ?_) (fun c29 => ?_)
            · have hM := g_neg c29 hM
              refine lv_iinc (v := x3_2 + (1 : Int32)) (lv' := [(3, .int (x3_2 + (1 : Int32))), (0, .ref h0), (1, .int p1), (2, .int p2)]) hx hb dX4_canJoin_34 hl (k := 3) rfl rfl (by decide) rfl (fun ls hl => ?_)
              refine lv_goto (tgt := 2) hx hb dX4_canJoin_37 (by decide) ?_
              exact ih (x3_2 + (1 : Int32)) _ _ _ hM hP hD hS (lv_sub hl [1, 2, 3, 0] rfl)
            · have hM := g_pos c29 hM
              refine lv_iconst (v := 0) hx hb dX4_canJoin_32 (by decide) ?_
              obtain rfl := si1 hM
              exact hret _ _ _ _ _ dX4_canJoin_33 rfl rfl hP hD hS
  exact L2 N (0 : Int32) _ _ _ hM hP hD hS (lv_sub hl [1, 2, 3, 0] rfl)

-- ===== X4_placeFrom placeFrom (LCaveYears$Registers;III)Z =====
abbrev r4_placeFrom (dd : Nat) : Room := { frames := 3 + dd, cells := 0, slots := 0, locals := 68 + dd * 24 }
def f4_placeFrom_L19 (N : Nat) (p2 : Int32) (p3 : Int32) (p4 : Int32) (w1_count : Int32) (w1_date : Nat → Int32) (w1_age : Nat → Int32) (rec999 : Int32 → Int32 → Int32 → Int32 → (Nat → Int32) → (Nat → Int32) → (Nat → Int32) → Option (Int32 × (Nat → Int32))) : Nat → Int32 → (Nat → Int32) → Option (Int32 × (Nat → Int32))
  | 0, _, _ => none
  | n + 1, x4_19, w1_man_19 => if p3 < x4_19 then (some ((0 : Int32), w1_man_19)) else (if p4 ≤ x4_19 then (some ((0 : Int32), w1_man_19)) else (ob1 (f4_canJoin N p2 x4_19 w1_count w1_man_19 w1_date w1_age) fun r35 => if r35 = (0 : Int32) then ((f4_placeFrom_L19 N p2 p3 p4 w1_count w1_date w1_age rec999 n) (x4_19 + (1 : Int32)) w1_man_19) else (gi p2 8 (ob2 (rec999 (p2 + (1 : Int32)) (if p3 < (x4_19 + (1 : Int32)) then (x4_19 + (1 : Int32)) else p3) p4 w1_count (upd w1_man_19 p2.toNatClampNeg x4_19) w1_date w1_age) fun r62 w1_man_62 => if r62 = (0 : Int32) then ((f4_placeFrom_L19 N p2 p3 p4 w1_count w1_date w1_age rec999 n) (x4_19 + (1 : Int32)) w1_man_62) else (some ((1 : Int32), w1_man_62))))))
def f4_placeFrom (N : Nat) : Nat → Int32 → Int32 → Int32 → Int32 → (Nat → Int32) → (Nat → Int32) → (Nat → Int32) → Option (Int32 × (Nat → Int32))
  | 0, _, _, _, _, _, _, _ => none
  | dd + 1, p2, p3, p4, w1_count, w1_man, w1_date, w1_age => if w1_count ≤ p2 then (some ((1 : Int32), w1_man)) else (if p2 < (8 : Int32) then (f4_placeFrom_L19 N p2 p3 p4 w1_count w1_date w1_age (f4_placeFrom N dd) N (0 : Int32) w1_man) else (some ((1 : Int32), w1_man)))
set_option maxHeartbeats 4000000 in
set_option maxRecDepth 100000 in
theorem c4_placeFrom (l : Launch) (D : va_G) (cy : Nat → ClassId) (N : Nat) : ∀ (dd : Nat) (g1 g1_man g1_date g1_age : Nat) (p2 : Int32) (p3 : Int32) (p4 : Int32) (w1_count : Int32) (w1_man : Nat → Int32) (w1_date : Nat → Int32) (w1_age : Nat → Int32) (r : Int32) (nw1_man : Nat → Int32) (hM : f4_placeFrom N dd p2 p3 p4 w1_count w1_man w1_date w1_age = some (r, nw1_man)) (sz : Nat), CTi l yX4_placeFrom wsX4_placeFrom (r4_placeFrom dd) [.ref g1, .int p2, .int p3, .int p4] D cy sz [(g1, .inr (4, [.int w1_count, .ref g1_man, .ref g1_date, .ref g1_age])), (g1_man, .inl (cy 2, 8, .inl w1_man)), (g1_date, .inl (cy 2, 8, .inl w1_date)), (g1_age, .inl (cy 2, 8, .inl w1_age))] [(g1, .inr (4, [.int w1_count, .ref g1_man, .ref g1_date, .ref g1_age])), (g1_man, .inl (cy 2, 8, .inl nw1_man)), (g1_date, .inl (cy 2, 8, .inl w1_date)), (g1_age, .inl (cy 2, 8, .inl w1_age))] r := by
  intro dd
  induction dd with
  | zero =>
    intro g1 g1_man g1_date g1_age p2 p3 p4 w1_count w1_man w1_date w1_age r nw1_man hM
    exact absurd hM (by simp [f4_placeFrom])
  | succ dd ihd =>
    intro g1 g1_man g1_date g1_age p2 p3 p4 w1_count w1_man w1_date w1_age r nw1_man hM sz
    rw [f4_placeFrom] at hM
    refine ct_oi (cc := cX4_placeFrom) (maxL := 5) (ty := .boolean) (by decide +kernel) rfl (Nat.le_of_ble_eq_true rfl) (lv0 := [(0, .ref g1), (1, .int p2), (2, .int p3), (3, .int p4)]) rfl ?_
    intro p e s m args below meth c A Q ls hx hb hts hown hml hK hP hD hS hA hret hl
    have hown : s.vm.findClass RX4 = some m.cls := hown
    have k21 := hts (.fieldLink RX4 21 "CaveYears$Registers" "count" "I") (List.mem_of_getElem? (i := 1) rfl)
    have iX4 := (fun w h => (List.mem_cons_of_mem _ (List.mem_append_right _ h)) : ∀ w ∈ wsX40, w ∈ wsX4_placeFrom)
    have k9 := hts (.fieldLink RX4 9 "CaveYears$Registers" "man" "[I") (List.mem_of_getElem? (i := 2) rfl)
    have k38 := hts (.methodLink RX4 38 Lib.Math.max.name) (List.mem_of_getElem? (i := 3) rfl)
    have ks38 := hts (.static Lib.Math.max.name) (List.mem_of_getElem? (i := 4) rfl)
    have kmath := hts (.initialized "java/lang/Math") (List.mem_of_getElem? (i := 5) rfl)
    have kc38 := hts (.code Lib.Math.max.name Lib.Math.max.code 2 (some .int)) (List.mem_of_getElem? (i := 6) rfl)
    refine lv_iload_n hx hb dX4_placeFrom_0 rfl (lv_at hl 1 rfl) ?_
    refine lv_aload_n hx hb dX4_placeFrom_1 rfl (lv_at hl 0 rfl) ?_
    refine va_get (D := D) (ci := 4) (v := .int w1_count) (C := RX4) (T := TX4) (N := 4) hx hb hts iX4 hown hK hP 0 rfl rfl 0 (by decide) k21 (fun _ h9 => h9) rfl dX4_placeFrom_2 ?_
    refine lv_icmp_ge (tgt := 14) hx hb dX4_placeFrom_5 (by decide) (fun c5 => ?_) (fun c5 => ?_)
    · have hM := g_pos c5 hM
      refine lv_iconst (v := 1) hx hb dX4_placeFrom_14 (by decide) ?_
      obtain ⟨rfl, rfl⟩ := si2 hM
      exact hret _ _ _ _ _ dX4_placeFrom_15 rfl rfl hP hD hS
    · have hM := g_neg c5 hM
      refine lv_iload_n hx hb dX4_placeFrom_8 rfl (lv_at hl 1 rfl) ?_
      refine lv_bipush (v := 8) hx hb dX4_placeFrom_9 (by decide) ?_
      refine lv_icmp_lt (tgt := 16) hx hb dX4_placeFrom_11 (by decide) (fun c11 => ?_) (fun c11 => ?_)
      · have hM := g_pos c11 hM
        refine lv_iconst (v := 0) hx hb dX4_placeFrom_16 (by decide) ?_
        refine lv_istore (lv' := [(4, .int (0 : Int32)), (0, .ref g1), (1, .int p2), (2, .int p3), (3, .int p4)]) hx hb dX4_placeFrom_17 hl (by decide) rfl (fun ls hl => ?_)
        have L19 : ∀ (n : Nat) (x4_19 : Int32) (w1_man_19 : Nat → Int32) (H : Heap) (locs : List Loc) (ls : Array Slot), f4_placeFrom_L19 N p2 p3 p4 w1_count w1_date w1_age (f4_placeFrom N dd) n x4_19 w1_man_19 = some (r, nw1_man) → va_P D vwCl [(g1, .inr (4, [.int w1_count, .ref g1_man, .ref g1_date, .ref g1_age])), (g1_man, .inl (cy 2, 8, .inl w1_man_19)), (g1_date, .inl (cy 2, 8, .inl w1_date)), (g1_age, .inl (cy 2, 8, .inl w1_age))] H → va_D A [(g1, .inr (4, [.int w1_count, .ref g1_man, .ref g1_date, .ref g1_age])), (g1_man, .inl (cy 2, 8, .inl w1_man_19)), (g1_date, .inl (cy 2, 8, .inl w1_date)), (g1_age, .inl (cy 2, 8, .inl w1_age))] → va_S A s.heap H locs → lv_has ls 5 [(0, .ref g1), (1, .int p2), (2, .int p3), (3, .int p4), (4, .int x4_19)] → W p l e (r4_placeFrom (dd + 1)) s m args below meth c H locs 0 0 Q (F0 m 19 ls []) := by
          intro n
          induction n with
          | zero =>
            intro x4_19 w1_man_19 H locs ls hM
            exact absurd hM (by simp [f4_placeFrom_L19])
          | succ n ih =>
            intro x4_19 w1_man_19 H locs ls hM hP hD hS hl
            rw [f4_placeFrom_L19] at hM
            refine lv_iload hx hb dX4_placeFrom_19 (lv_at hl 4 rfl) ?_
            refine lv_iload_n hx hb dX4_placeFrom_21 rfl (lv_at hl 2 rfl) ?_
            refine lv_icmp_gt (tgt := 76) hx hb dX4_placeFrom_22 (by decide) (fun c22 => ?_) (fun c22 => ?_)
            · have hM := g_pos c22 hM
              refine lv_iconst (v := 0) hx hb dX4_placeFrom_76 (by decide) ?_
              obtain ⟨rfl, rfl⟩ := si2 hM
              exact hret _ _ _ _ _ dX4_placeFrom_77 rfl rfl hP hD hS
            · have hM := g_neg c22 hM
              refine lv_iload hx hb dX4_placeFrom_25 (lv_at hl 4 rfl) ?_
              refine lv_iload_n hx hb dX4_placeFrom_27 rfl (lv_at hl 3 rfl) ?_
              refine lv_icmp_ge (tgt := 76) hx hb dX4_placeFrom_28 (by decide) (fun c28 => ?_) (fun c28 => ?_)
              · have hM := g_pos c28 hM
                refine lv_iconst (v := 0) hx hb dX4_placeFrom_76 (by decide) ?_
                obtain ⟨rfl, rfl⟩ := si2 hM
                exact hret _ _ _ _ _ dX4_placeFrom_77 rfl rfl hP hD hS
              · have hM := g_neg c28 hM
                refine lv_aload_n hx hb dX4_placeFrom_31 rfl (lv_at hl 0 rfl) ?_
                refine lv_iload_n hx hb dX4_placeFrom_32 rfl (lv_at hl 1 rfl) ?_
                refine lv_iload hx hb dX4_placeFrom_33 (lv_at hl 4 rfl) ?_
                obtain ⟨r35, hc35, hM⟩ := ob1_some hM
                refine cl_vi (As := [.int p2, .int x4_19]) (rest := []) (ci := 4) (q0 := 0) (wr := []) (ws2 := [(g1, .inr (4, [.int w1_count, .ref g1_man, .ref g1_date, .ref g1_age])), (g1_man, .inl (cy 2, 8, .inl w1_man_19)), (g1_date, .inl (cy 2, 8, .inl w1_date)), (g1_age, .inl (cy 2, 8, .inl w1_age))]) (isC := [0, 1, 2, 3]) (isR := []) (pm := [0, 1, 2, 3]) hx hb hml hown hts (c4_canJoin l D cy N g1 g1_man g1_date g1_age p2 x4_19 w1_count w1_man_19 w1_date w1_age r35 hc35) (cwV 2 hts gX4_placeFrom_X4_canJoin rfl rfl rfl (by decide +kernel) ⟨(by simp only [r4_placeFrom, r4_canJoin]; omega), (by simp only [r4_placeFrom, r4_canJoin]; omega)⟩) hK hP hD hS hA rfl rfl rfl rfl rfl (by decide) rfl rfl rfl hl.1 (Nat.le_of_ble_eq_true rfl) dX4_placeFrom_35 ⟨Nat.zero_le _, Nat.zero_le _⟩ rfl rfl (fun H locs hP hD hS => ?_)
                refine lv_if_eq (tgt := 70) hx hb dX4_placeFrom_38 (by decide) (fun c38 => ?_) (fun c38 => ?_)
                · have hM := g_pos c38 hM
                  refine lv_iinc (v := x4_19 + (1 : Int32)) (lv' := [(4, .int (x4_19 + (1 : Int32))), (0, .ref g1), (1, .int p2), (2, .int p3), (3, .int p4)]) hx hb dX4_placeFrom_70 hl (k := 4) rfl rfl (by decide) rfl (fun ls hl => ?_)
                  refine lv_goto (tgt := 19) hx hb dX4_placeFrom_73 (by decide) ?_
                  exact ih (x4_19 + (1 : Int32)) w1_man_19 _ _ _ hM hP hD hS (lv_sub hl [1, 2, 3, 4, 0] rfl)
                · have hM := g_neg c38 hM
                  refine lv_aload_n hx hb dX4_placeFrom_41 rfl (lv_at hl 0 rfl) ?_
                  refine va_get (D := D) (ci := 4) (v := .ref g1_man) (C := RX4) (T := TX4) (N := 4) hx hb hts iX4 hown hK hP 0 rfl rfl 1 (by decide) k9 (fun _ h9 => h9) rfl dX4_placeFrom_42 ?_
                  refine lv_iload_n hx hb dX4_placeFrom_45 rfl (lv_at hl 1 rfl) ?_
                  refine lv_iload hx hb dX4_placeFrom_46 (lv_at hl 4 rfl) ?_
                  obtain ⟨h48, hM⟩ := gi_some hM
                  refine va_iast hx hb hK hP hD hS 1 2 rfl rfl h48 dX4_placeFrom_48 (fun H locs hP hD hS => ?_)
                  have hP : va_P D vwCl [(g1, .inr (4, [.int w1_count, .ref g1_man, .ref g1_date, .ref g1_age])), (g1_man, .inl (cy 2, 8, .inl (upd w1_man_19 p2.toNatClampNeg x4_19))), (g1_date, .inl (cy 2, 8, .inl w1_date)), (g1_age, .inl (cy 2, 8, .inl w1_age))] H := hP
                  have hD : va_D A [(g1, .inr (4, [.int w1_count, .ref g1_man, .ref g1_date, .ref g1_age])), (g1_man, .inl (cy 2, 8, .inl (upd w1_man_19 p2.toNatClampNeg x4_19))), (g1_date, .inl (cy 2, 8, .inl w1_date)), (g1_age, .inl (cy 2, 8, .inl w1_age))] := hD
                  refine lv_aload_n hx hb dX4_placeFrom_49 rfl (lv_at hl 0 rfl) ?_
                  refine lv_iload_n hx hb dX4_placeFrom_50 rfl (lv_at hl 1 rfl) ?_
                  refine lv_iconst (v := 1) hx hb dX4_placeFrom_51 (by decide) ?_
                  refine lv_iadd hx hb dX4_placeFrom_52 ?_
                  refine lv_iload_n hx hb dX4_placeFrom_53 rfl (lv_at hl 2 rfl) ?_
                  refine lv_iload hx hb dX4_placeFrom_54 (lv_at hl 4 rfl) ?_
                  refine lv_iconst (v := 1) hx hb dX4_placeFrom_56 (by decide) ?_
                  refine lv_iadd hx hb dX4_placeFrom_57 ?_
                  refine va_mmax hx hb (hml.trans hl.1.symm) hown k38 ks38 kmath kc38 (by simp only [r4_placeFrom]; omega) (Nat.le_trans (m := 24) (Nat.le_of_ble_eq_true rfl) (by simp only [r4_placeFrom]; omega)) (Nat.zero_le _) (Nat.zero_le _) dX4_placeFrom_58 ?_
                  refine lv_iload_n hx hb dX4_placeFrom_61 rfl (lv_at hl 3 rfl) ?_
                  obtain ⟨r62, w1_man_62, hc62, hM⟩ := ob2_some hM
                  refine cl_si (As := [.ref g1, .int (p2 + (1 : Int32)), .int (if p3 < (x4_19 + (1 : Int32)) then (x4_19 + (1 : Int32)) else p3), .int p4]) (rest := []) (wr := []) (ws2 := [(g1, .inr (4, [.int w1_count, .ref g1_man, .ref g1_date, .ref g1_age])), (g1_man, .inl (cy 2, 8, .inl w1_man_62)), (g1_date, .inl (cy 2, 8, .inl w1_date)), (g1_age, .inl (cy 2, 8, .inl w1_age))]) (isC := [0, 1, 2, 3]) (isR := []) (pm := [0, 1, 2, 3]) hx hb hml hown hts (ihd g1 g1_man g1_date g1_age (p2 + (1 : Int32)) (if p3 < (x4_19 + (1 : Int32)) then (x4_19 + (1 : Int32)) else p3) p4 w1_count (upd w1_man_19 p2.toNatClampNeg x4_19) w1_date w1_age r62 w1_man_62 hc62) (va_cwS 4 hts gX4_placeFrom_X4_placeFrom rfl rfl rfl (by decide +kernel) ⟨(by simp only [r4_placeFrom, r4_placeFrom]; omega), (by simp only [r4_placeFrom, r4_placeFrom]; omega)⟩) hK hP hD hS hA rfl rfl rfl (by decide) rfl rfl rfl hl.1 (Nat.le_of_ble_eq_true rfl) dX4_placeFrom_62 ⟨Nat.zero_le _, Nat.zero_le _⟩ rfl rfl (fun H locs hP hD hS => ?_)
                  refine lv_if_eq (tgt := 70) hx hb dX4_placeFrom_65 (by decide) (fun c65 => ?_) (fun c65 => ?_)
                  · have hM := g_pos c65 hM
                    refine lv_iinc (v := x4_19 + (1 : Int32)) (lv' := [(4, .int (x4_19 + (1 : Int32))), (0, .ref g1), (1, .int p2), (2, .int p3), (3, .int p4)]) hx hb dX4_placeFrom_70 hl (k := 4) rfl rfl (by decide) rfl (fun ls hl => ?_)
                    refine lv_goto (tgt := 19) hx hb dX4_placeFrom_73 (by decide) ?_
                    exact ih (x4_19 + (1 : Int32)) w1_man_62 _ _ _ hM hP hD hS (lv_sub hl [1, 2, 3, 4, 0] rfl)
                  · have hM := g_neg c65 hM
                    refine lv_iconst (v := 1) hx hb dX4_placeFrom_68 (by decide) ?_
                    obtain ⟨rfl, rfl⟩ := si2 hM
                    exact hret _ _ _ _ _ dX4_placeFrom_69 rfl rfl hP hD hS
        exact L19 N (0 : Int32) w1_man _ _ _ hM hP hD hS (lv_sub hl [1, 2, 3, 4, 0] rfl)
      · have hM := g_neg c11 hM
        refine lv_iconst (v := 1) hx hb dX4_placeFrom_14 (by decide) ?_
        obtain ⟨rfl, rfl⟩ := si2 hM
        exact hret _ _ _ _ _ dX4_placeFrom_15 rfl rfl hP hD hS

-- ===== X4_leastMen leastMen ()I =====
abbrev r4_leastMen : Room := { frames := 14, cells := 0, slots := 0, locals := 332 }
def f4_leastMen_L2 (N : Nat) (v_count : Int32) (v_date : Nat → Int32) (v_age : Nat → Int32) : Nat → Int32 → (Nat → Int32) → Option (Int32 × (Nat → Int32))
  | 0, _, _ => none
  | n + 1, x1_2, v_man_2 => if (8 : Int32) < x1_2 then (some ((-1 : Int32), v_man_2)) else (ob2 (f4_placeFrom N 10 (0 : Int32) (0 : Int32) x1_2 v_count v_man_2 v_date v_age) fun r12 v_man_12 => if r12 = (0 : Int32) then ((f4_leastMen_L2 N v_count v_date v_age n) (x1_2 + (1 : Int32)) v_man_12) else (some (x1_2, v_man_12)))
def f4_leastMen (N : Nat) (v_count : Int32) (v_man : Nat → Int32) (v_date : Nat → Int32) (v_age : Nat → Int32) : Option (Int32 × (Nat → Int32)) :=
  f4_leastMen_L2 N v_count v_date v_age N (0 : Int32) v_man
set_option maxHeartbeats 4000000 in
set_option maxRecDepth 100000 in
theorem c4_leastMen (l : Launch) (D : va_G) (cy : Nat → ClassId) (N : Nat) (h0 h0_man h0_date h0_age : Nat) (v_count : Int32) (v_man : Nat → Int32) (v_date : Nat → Int32) (v_age : Nat → Int32) (r : Int32) (nv_man : Nat → Int32) (hM : f4_leastMen N v_count v_man v_date v_age = some (r, nv_man)) (sz : Nat) : CTi l yX4_leastMen wsX4_leastMen r4_leastMen [.ref h0] D cy sz [(h0, .inr (4, [.int v_count, .ref h0_man, .ref h0_date, .ref h0_age])), (h0_man, .inl (cy 2, 8, .inl v_man)), (h0_date, .inl (cy 2, 8, .inl v_date)), (h0_age, .inl (cy 2, 8, .inl v_age))] [(h0, .inr (4, [.int v_count, .ref h0_man, .ref h0_date, .ref h0_age])), (h0_man, .inl (cy 2, 8, .inl nv_man)), (h0_date, .inl (cy 2, 8, .inl v_date)), (h0_age, .inl (cy 2, 8, .inl v_age))] r := by
  unfold f4_leastMen at hM
  refine ct_oi (cc := cX4_leastMen) (maxL := 2) (ty := .int) (by decide +kernel) rfl (Nat.le_of_ble_eq_true rfl) (lv0 := [(0, .ref h0)]) rfl ?_
  intro p e s m args below meth c A Q ls hx hb hts hown hml hK hP hD hS hA hret hl
  have hown : s.vm.findClass RX4 = some m.cls := hown
  refine lv_iconst (v := 0) hx hb dX4_leastMen_0 (by decide) ?_
  refine lv_istore_n (lv' := [(1, .int (0 : Int32)), (0, .ref h0)]) hx hb dX4_leastMen_1 rfl hl (by decide) rfl (fun ls hl => ?_)
  have L2 : ∀ (n : Nat) (x1_2 : Int32) (v_man_2 : Nat → Int32) (H : Heap) (locs : List Loc) (ls : Array Slot), f4_leastMen_L2 N v_count v_date v_age n x1_2 v_man_2 = some (r, nv_man) → va_P D vwCl [(h0, .inr (4, [.int v_count, .ref h0_man, .ref h0_date, .ref h0_age])), (h0_man, .inl (cy 2, 8, .inl v_man_2)), (h0_date, .inl (cy 2, 8, .inl v_date)), (h0_age, .inl (cy 2, 8, .inl v_age))] H → va_D A [(h0, .inr (4, [.int v_count, .ref h0_man, .ref h0_date, .ref h0_age])), (h0_man, .inl (cy 2, 8, .inl v_man_2)), (h0_date, .inl (cy 2, 8, .inl v_date)), (h0_age, .inl (cy 2, 8, .inl v_age))] → va_S A s.heap H locs → lv_has ls 2 [(0, .ref h0), (1, .int x1_2)] → W p l e r4_leastMen s m args below meth c H locs 0 0 Q (F0 m 2 ls []) := by
    intro n
    induction n with
    | zero =>
      intro x1_2 v_man_2 H locs ls hM
      exact absurd hM (by simp [f4_leastMen_L2])
    | succ n ih =>
      intro x1_2 v_man_2 H locs ls hM hP hD hS hl
      rw [f4_leastMen_L2] at hM
      refine lv_iload_n hx hb dX4_leastMen_2 rfl (lv_at hl 1 rfl) ?_
      refine lv_bipush (v := 8) hx hb dX4_leastMen_3 (by decide) ?_
      refine lv_icmp_gt (tgt := 26) hx hb dX4_leastMen_5 (by decide) (fun c5 => ?_) (fun c5 => ?_)
      · have hM := g_pos c5 hM
        refine lv_iconst (v := -1) hx hb dX4_leastMen_26 (by decide) ?_
        obtain ⟨rfl, rfl⟩ := si2 hM
        exact hret _ _ _ _ _ dX4_leastMen_27 rfl rfl hP hD hS
      · have hM := g_neg c5 hM
        refine lv_aload_n hx hb dX4_leastMen_8 rfl (lv_at hl 0 rfl) ?_
        refine lv_iconst (v := 0) hx hb dX4_leastMen_9 (by decide) ?_
        refine lv_iconst (v := 0) hx hb dX4_leastMen_10 (by decide) ?_
        refine lv_iload_n hx hb dX4_leastMen_11 rfl (lv_at hl 1 rfl) ?_
        obtain ⟨r12, v_man_12, hc12, hM⟩ := ob2_some hM
        refine cl_si (As := [.ref h0, .int (0 : Int32), .int (0 : Int32), .int x1_2]) (rest := []) (wr := []) (ws2 := [(h0, .inr (4, [.int v_count, .ref h0_man, .ref h0_date, .ref h0_age])), (h0_man, .inl (cy 2, 8, .inl v_man_12)), (h0_date, .inl (cy 2, 8, .inl v_date)), (h0_age, .inl (cy 2, 8, .inl v_age))]) (isC := [0, 1, 2, 3]) (isR := []) (pm := [0, 1, 2, 3]) hx hb hml hown hts (c4_placeFrom l D cy N 10 h0 h0_man h0_date h0_age (0 : Int32) (0 : Int32) x1_2 v_count v_man_2 v_date v_age r12 v_man_12 hc12) (va_cwS 4 hts gX4_leastMen_X4_placeFrom rfl rfl rfl (by decide +kernel) ⟨Nat.le_of_ble_eq_true rfl, Nat.le_of_ble_eq_true rfl⟩) hK hP hD hS hA rfl rfl rfl (by decide) rfl rfl rfl hl.1 (Nat.le_of_ble_eq_true rfl) dX4_leastMen_12 ⟨Nat.zero_le _, Nat.zero_le _⟩ rfl rfl (fun H locs hP hD hS => ?_)
        refine lv_if_eq (tgt := 20) hx hb dX4_leastMen_15 (by decide) (fun c15 => ?_) (fun c15 => ?_)
        · have hM := g_pos c15 hM
          refine lv_iinc (v := x1_2 + (1 : Int32)) (lv' := [(1, .int (x1_2 + (1 : Int32))), (0, .ref h0)]) hx hb dX4_leastMen_20 hl (k := 1) rfl rfl (by decide) rfl (fun ls hl => ?_)
          refine lv_goto (tgt := 2) hx hb dX4_leastMen_23 (by decide) ?_
          exact ih (x1_2 + (1 : Int32)) v_man_12 _ _ _ hM hP hD hS (lv_sub hl [1, 0] rfl)
        · have hM := g_neg c15 hM
          refine lv_iload_n hx hb dX4_leastMen_18 rfl (lv_at hl 1 rfl) ?_
          obtain ⟨rfl, rfl⟩ := si2 hM
          exact hret _ _ _ _ _ dX4_leastMen_19 rfl rfl hP hD hS
  exact L2 N (0 : Int32) v_man _ _ _ hM hP hD hS (lv_sub hl [1, 0] rfl)
