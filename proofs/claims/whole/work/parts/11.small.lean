-- ===== X6_addDay addDay (I)I =====
abbrev r6_addDay : Room := { frames := 0, cells := 0, slots := 0, locals := 0 }
def f6_addDay (N : Nat) (p1 : Int32) (v_count : Int32) (v_partOf : Nat → Int32) : Option (Int32 × Int32 × (Nat → Int32)) :=
  if v_count < (0 : Int32) then (some ((-1000000004 : Int32), v_count, v_partOf)) else (if v_count < (40 : Int32) then (gi v_count 40 (some ((v_count + (1 : Int32)), (v_count + (1 : Int32)), (upd v_partOf v_count.toNatClampNeg p1)))) else (some ((-1000000004 : Int32), v_count, v_partOf)))
set_option maxHeartbeats 4000000 in
set_option maxRecDepth 100000 in
theorem c6_addDay (l : Launch) (D : va_G) (cy : Nat → ClassId) (N : Nat) (h0 h0_partOf : Nat) (p1 : Int32) (v_count : Int32) (v_partOf : Nat → Int32) (r : Int32) (nv_count : Int32) (nv_partOf : Nat → Int32) (hM : f6_addDay N p1 v_count v_partOf = some (r, nv_count, nv_partOf)) (sz : Nat) : CTi l yX6_addDay wsX6_addDay r6_addDay [.ref h0, .int p1] D cy sz [(h0, .inr (6, [.int v_count, .ref h0_partOf])), (h0_partOf, .inl (cy 2, 40, .inl v_partOf))] [(h0, .inr (6, [.int nv_count, .ref h0_partOf])), (h0_partOf, .inl (cy 2, 40, .inl nv_partOf))] r := by
  unfold f6_addDay at hM
  refine ct_oi (cc := cX6_addDay) (maxL := 2) (ty := .int) (by decide +kernel) rfl (Nat.le_of_ble_eq_true rfl) (lv0 := [(0, .ref h0), (1, .int p1)]) rfl ?_
  intro p e s m args below meth c A Q ls hx hb hts hown hml hK hP hD hS hA hret hl
  have hown : s.vm.findClass RX6 = some m.cls := hown
  have k15 := hts (.fieldLink RX6 15 "CaveYears$Stay" "count" "I") (List.mem_of_getElem? (i := 1) rfl)
  have iX6 := (fun w h => (List.mem_cons_of_mem _ (List.mem_append_right _ h)) : ∀ w ∈ wsX60, w ∈ wsX6_addDay)
  have k19 := hts (.constant RX6 19 (-1000000004)) (List.mem_of_getElem? (i := 2) rfl)
  have k9 := hts (.fieldLink RX6 9 "CaveYears$Stay" "partOf" "[I") (List.mem_of_getElem? (i := 3) rfl)
  refine lv_aload_n hx hb dX6_addDay_0 rfl (lv_at hl 0 rfl) ?_
  refine va_get (D := D) (ci := 6) (v := .int v_count) (C := RX6) (T := TX6) (N := 2) hx hb hts iX6 hown hK hP 0 rfl rfl 0 (by decide) k15 (fun _ h9 => h9) rfl dX6_addDay_1 ?_
  refine lv_if_lt (tgt := 16) hx hb dX6_addDay_4 (by decide) (fun c4 => ?_) (fun c4 => ?_)
  · have hM := g_pos c4 hM
    refine lv_ldc (v := -1000000004) hx hb hown k19 dX6_addDay_16 ?_
    obtain ⟨rfl, rfl, rfl⟩ := si3 hM
    exact hret _ _ _ _ _ dX6_addDay_18 rfl rfl hP hD hS
  · have hM := g_neg c4 hM
    refine lv_aload_n hx hb dX6_addDay_7 rfl (lv_at hl 0 rfl) ?_
    refine va_get (D := D) (ci := 6) (v := .int v_count) (C := RX6) (T := TX6) (N := 2) hx hb hts iX6 hown hK hP 0 rfl rfl 0 (by decide) k15 (fun _ h9 => h9) rfl dX6_addDay_8 ?_
    refine lv_bipush (v := 40) hx hb dX6_addDay_11 (by decide) ?_
    refine lv_icmp_lt (tgt := 19) hx hb dX6_addDay_13 (by decide) (fun c13 => ?_) (fun c13 => ?_)
    · have hM := g_pos c13 hM
      refine lv_aload_n hx hb dX6_addDay_19 rfl (lv_at hl 0 rfl) ?_
      refine va_get (D := D) (ci := 6) (v := .ref h0_partOf) (C := RX6) (T := TX6) (N := 2) hx hb hts iX6 hown hK hP 0 rfl rfl 1 (by decide) k9 (fun _ h9 => h9) rfl dX6_addDay_20 ?_
      refine lv_aload_n hx hb dX6_addDay_23 rfl (lv_at hl 0 rfl) ?_
      refine va_get (D := D) (ci := 6) (v := .int v_count) (C := RX6) (T := TX6) (N := 2) hx hb hts iX6 hown hK hP 0 rfl rfl 0 (by decide) k15 (fun _ h9 => h9) rfl dX6_addDay_24 ?_
      refine lv_iload_n hx hb dX6_addDay_27 rfl (lv_at hl 1 rfl) ?_
      obtain ⟨h28, hM⟩ := gi_some hM
      refine va_iast hx hb hK hP hD hS 1 2 rfl rfl h28 dX6_addDay_28 (fun H locs hP hD hS => ?_)
      have hP : va_P D vwCl [(h0, .inr (6, [.int v_count, .ref h0_partOf])), (h0_partOf, .inl (cy 2, 40, .inl (upd v_partOf v_count.toNatClampNeg p1)))] H := hP
      have hD : va_D A [(h0, .inr (6, [.int v_count, .ref h0_partOf])), (h0_partOf, .inl (cy 2, 40, .inl (upd v_partOf v_count.toNatClampNeg p1)))] := hD
      refine lv_aload_n hx hb dX6_addDay_29 rfl (lv_at hl 0 rfl) ?_
      refine lv_dup hx hb dX6_addDay_30 rfl ?_
      refine va_get (D := D) (ci := 6) (v := .int v_count) (C := RX6) (T := TX6) (N := 2) hx hb hts iX6 hown hK hP 0 rfl rfl 0 (by decide) k15 (fun _ h9 => h9) rfl dX6_addDay_31 ?_
      refine lv_iconst (v := 1) hx hb dX6_addDay_34 (by decide) ?_
      refine lv_iadd hx hb dX6_addDay_35 ?_
      refine va_put (D := D) (ci := 6) (v := .int (v_count + (1 : Int32))) (ty := .int) (C := RX6) (T := TX6) (N := 2) hx hb hts iX6 tyX6 tyX6_ok nmX6 hown hK hP hD hS 0 rfl rfl 0 (by decide) k15 (fun _ h9 => h9) rfl (by decide +kernel) rfl rfl (Nat.le_of_ble_eq_true rfl) dX6_addDay_36 (fun H locs hP hD hS => ?_)
      have hP : va_P D vwCl [(h0, .inr (6, [.int (v_count + (1 : Int32)), .ref h0_partOf])), (h0_partOf, .inl (cy 2, 40, .inl (upd v_partOf v_count.toNatClampNeg p1)))] H := hP
      have hD : va_D A [(h0, .inr (6, [.int (v_count + (1 : Int32)), .ref h0_partOf])), (h0_partOf, .inl (cy 2, 40, .inl (upd v_partOf v_count.toNatClampNeg p1)))] := hD
      refine lv_aload_n hx hb dX6_addDay_39 rfl (lv_at hl 0 rfl) ?_
      refine va_get (D := D) (ci := 6) (v := .int (v_count + (1 : Int32))) (C := RX6) (T := TX6) (N := 2) hx hb hts iX6 hown hK hP 0 rfl rfl 0 (by decide) k15 (fun _ h9 => h9) rfl dX6_addDay_40 ?_
      obtain ⟨rfl, rfl, rfl⟩ := si3 hM
      exact hret _ _ _ _ _ dX6_addDay_43 rfl rfl hP hD hS
    · have hM := g_neg c13 hM
      refine lv_ldc (v := -1000000004) hx hb hown k19 dX6_addDay_16 ?_
      obtain ⟨rfl, rfl, rfl⟩ := si3 hM
      exact hret _ _ _ _ _ dX6_addDay_18 rfl rfl hP hD hS

-- ===== X6_time time (LCaveYears$Cave;)I =====
abbrev r6_time : Room := { frames := 2, cells := 0, slots := 0, locals := 42 }
def f6_time_L4 (N : Nat) (v_count : Int32) (v_partOf : Nat → Int32) (w1_parts : Int32) (w1_rate : Nat → Int32) : Nat → Int32 → Int32 → Option Int32
  | 0, _, _ => none
  | n + 1, x2_4, x3_4 => if v_count ≤ x3_4 then (some x2_4) else (if (40 : Int32) ≤ x3_4 then (some x2_4) else (gi x3_4 40 (ob1 (f0_rateOf N (v_partOf x3_4.toNatClampNeg) w1_parts w1_rate) fun r26 => (f6_time_L4 N v_count v_partOf w1_parts w1_rate n) (x2_4 + r26) (x3_4 + (1 : Int32)))))
def f6_time (N : Nat) (v_count : Int32) (v_partOf : Nat → Int32) (w1_parts : Int32) (w1_rate : Nat → Int32) : Option Int32 :=
  ob1 (f6_time_L4 N v_count v_partOf w1_parts w1_rate N (0 : Int32) (0 : Int32)) fun e2_4 => some e2_4
set_option maxHeartbeats 4000000 in
set_option maxRecDepth 100000 in
theorem c6_time (l : Launch) (D : va_G) (cy : Nat → ClassId) (N : Nat) (h0 h0_partOf g1 g1_rate : Nat) (og1_1 og1_2 og1_3 og1_4 og1_5 og1_6 og1_8 og1_9 og1_10 og1_11 og1_12 : Value) (v_count : Int32) (v_partOf : Nat → Int32) (w1_parts : Int32) (w1_rate : Nat → Int32) (r : Int32) (hM : f6_time N v_count v_partOf w1_parts w1_rate = some r) (sz : Nat) : CTi l yX6_time wsX6_time r6_time [.ref h0, .ref g1] D cy sz [(h0, .inr (6, [.int v_count, .ref h0_partOf])), (h0_partOf, .inl (cy 2, 40, .inl v_partOf)), (g1, .inr (0, [.int w1_parts, og1_1, og1_2, og1_3, og1_4, og1_5, og1_6, .ref g1_rate, og1_8, og1_9, og1_10, og1_11, og1_12])), (g1_rate, .inl (cy 2, 7, .inl w1_rate))] [(h0, .inr (6, [.int v_count, .ref h0_partOf])), (h0_partOf, .inl (cy 2, 40, .inl v_partOf)), (g1, .inr (0, [.int w1_parts, og1_1, og1_2, og1_3, og1_4, og1_5, og1_6, .ref g1_rate, og1_8, og1_9, og1_10, og1_11, og1_12])), (g1_rate, .inl (cy 2, 7, .inl w1_rate))] r := by
  unfold f6_time at hM
  refine ct_oi (cc := cX6_time) (maxL := 4) (ty := .int) (by decide +kernel) rfl (Nat.le_of_ble_eq_true rfl) (lv0 := [(0, .ref h0), (1, .ref g1)]) rfl ?_
  intro p e s m args below meth c A Q ls hx hb hts hown hml hK hP hD hS hA hret hl
  have hown : s.vm.findClass RX6 = some m.cls := hown
  have k15 := hts (.fieldLink RX6 15 "CaveYears$Stay" "count" "I") (List.mem_of_getElem? (i := 1) rfl)
  have iX6 := (fun w h => (List.mem_cons_of_mem _ (List.mem_append_left _ (List.mem_append_right _ h))) : ∀ w ∈ wsX60, w ∈ wsX6_time)
  have k9 := hts (.fieldLink RX6 9 "CaveYears$Stay" "partOf" "[I") (List.mem_of_getElem? (i := 2) rfl)
  refine lv_iconst (v := 0) hx hb dX6_time_0 (by decide) ?_
  refine lv_istore_n (lv' := [(2, .int (0 : Int32)), (0, .ref h0), (1, .ref g1)]) hx hb dX6_time_1 rfl hl (by decide) rfl (fun ls hl => ?_)
  refine lv_iconst (v := 0) hx hb dX6_time_2 (by decide) ?_
  refine lv_istore_n (lv' := [(3, .int (0 : Int32)), (2, .int (0 : Int32)), (0, .ref h0), (1, .ref g1)]) hx hb dX6_time_3 rfl hl (by decide) rfl (fun ls hl => ?_)
  have L4 : ∀ (n : Nat) (x2_4 : Int32) (x3_4 : Int32) (e2_4 : Int32) (H : Heap) (locs : List Loc) (ls : Array Slot), f6_time_L4 N v_count v_partOf w1_parts w1_rate n x2_4 x3_4 = some e2_4 → va_P D vwCl [(h0, .inr (6, [.int v_count, .ref h0_partOf])), (h0_partOf, .inl (cy 2, 40, .inl v_partOf)), (g1, .inr (0, [.int w1_parts, og1_1, og1_2, og1_3, og1_4, og1_5, og1_6, .ref g1_rate, og1_8, og1_9, og1_10, og1_11, og1_12])), (g1_rate, .inl (cy 2, 7, .inl w1_rate))] H → va_D A [(h0, .inr (6, [.int v_count, .ref h0_partOf])), (h0_partOf, .inl (cy 2, 40, .inl v_partOf)), (g1, .inr (0, [.int w1_parts, og1_1, og1_2, og1_3, og1_4, og1_5, og1_6, .ref g1_rate, og1_8, og1_9, og1_10, og1_11, og1_12])), (g1_rate, .inl (cy 2, 7, .inl w1_rate))] → va_S A s.heap H locs → lv_has ls 4 [(0, .ref h0), (1, .ref g1), (2, .int x2_4), (3, .int x3_4)] → (∀ (H : Heap) (locs : List Loc) (ls : Array Slot), va_P D vwCl [(h0, .inr (6, [.int v_count, .ref h0_partOf])), (h0_partOf, .inl (cy 2, 40, .inl v_partOf)), (g1, .inr (0, [.int w1_parts, og1_1, og1_2, og1_3, og1_4, og1_5, og1_6, .ref g1_rate, og1_8, og1_9, og1_10, og1_11, og1_12])), (g1_rate, .inl (cy 2, 7, .inl w1_rate))] H → va_D A [(h0, .inr (6, [.int v_count, .ref h0_partOf])), (h0_partOf, .inl (cy 2, 40, .inl v_partOf)), (g1, .inr (0, [.int w1_parts, og1_1, og1_2, og1_3, og1_4, og1_5, og1_6, .ref g1_rate, og1_8, og1_9, og1_10, og1_11, og1_12])), (g1_rate, .inl (cy 2, 7, .inl w1_rate))] → va_S A s.heap H locs → lv_has ls 4 [(2, .int e2_4)] → W p l e r6_time s m args below meth c H locs 0 0 Q (F0 m 37 ls [])) → W p l e r6_time s m args below meth c H locs 0 0 Q (F0 m 4 ls []) := by
    intro n
    induction n with
    | zero =>
      intro x2_4 x3_4 e2_4 H locs ls hM
      exact absurd hM (by simp [f6_time_L4])
    | succ n ih =>
      intro x2_4 x3_4 e2_4 H locs ls hM hP hD hS hl K
      rw [f6_time_L4] at hM
      refine lv_iload_n hx hb dX6_time_4 rfl (lv_at hl 3 rfl) ?_
      refine lv_aload_n hx hb dX6_time_5 rfl (lv_at hl 0 rfl) ?_
      refine va_get (D := D) (ci := 6) (v := .int v_count) (C := RX6) (T := TX6) (N := 2) hx hb hts iX6 hown hK hP 0 rfl rfl 0 (by decide) k15 (fun _ h9 => h9) rfl dX6_time_6 ?_
      refine lv_icmp_ge (tgt := 37) hx hb dX6_time_9 (by decide) (fun c9 => ?_) (fun c9 => ?_)
      · have hM := g_pos c9 hM
        obtain rfl := si1 hM
        exact K _ _ _ hP hD hS (lv_sub hl [2] rfl)
      · have hM := g_neg c9 hM
        refine lv_iload_n hx hb dX6_time_12 rfl (lv_at hl 3 rfl) ?_
        refine lv_bipush (v := 40) hx hb dX6_time_13 (by decide) ?_
        refine lv_icmp_ge (tgt := 37) hx hb dX6_time_15 (by decide) (fun c15 => ?_) (fun c15 => ?_)
        · have hM := g_pos c15 hM
          obtain rfl := si1 hM
          exact K _ _ _ hP hD hS (lv_sub hl [2] rfl)
        · have hM := g_neg c15 hM
          refine lv_iload_n hx hb dX6_time_18 rfl (lv_at hl 2 rfl) ?_
          refine lv_aload_n hx hb dX6_time_19 rfl (lv_at hl 1 rfl) ?_
          refine lv_aload_n hx hb dX6_time_20 rfl (lv_at hl 0 rfl) ?_
          refine va_get (D := D) (ci := 6) (v := .ref h0_partOf) (C := RX6) (T := TX6) (N := 2) hx hb hts iX6 hown hK hP 0 rfl rfl 1 (by decide) k9 (fun _ h9 => h9) rfl dX6_time_21 ?_
          refine lv_iload_n hx hb dX6_time_24 rfl (lv_at hl 3 rfl) ?_
          obtain ⟨h25, hM⟩ := gi_some hM
          refine va_iald hx hb hK hP 1 2 rfl rfl h25 dX6_time_25 ?_
          obtain ⟨r26, hc26, hM⟩ := ob1_some hM
          refine cl_vi (As := [.int (v_partOf x3_4.toNatClampNeg)]) (rest := [.int x2_4]) (ci := 0) (q0 := 2) (wr := [(h0, .inr (6, [.int v_count, .ref h0_partOf])), (h0_partOf, .inl (cy 2, 40, .inl v_partOf))]) (ws2 := [(h0, .inr (6, [.int v_count, .ref h0_partOf])), (h0_partOf, .inl (cy 2, 40, .inl v_partOf)), (g1, .inr (0, [.int w1_parts, og1_1, og1_2, og1_3, og1_4, og1_5, og1_6, .ref g1_rate, og1_8, og1_9, og1_10, og1_11, og1_12])), (g1_rate, .inl (cy 2, 7, .inl w1_rate))]) (isC := [2, 3]) (isR := [0, 1]) (pm := [0, 1, 2, 3]) hx hb hml hown hts (c0_rateOf l D cy N g1 g1_rate og1_1 og1_2 og1_3 og1_4 og1_5 og1_6 og1_8 og1_9 og1_10 og1_11 og1_12 (v_partOf x3_4.toNatClampNeg) w1_parts w1_rate r26 hc26) (cwV 1 hts gX6_time_X0_rateOf rfl rfl rfl (by decide +kernel) ⟨Nat.le_of_ble_eq_true rfl, Nat.le_of_ble_eq_true rfl⟩) hK hP hD hS hA rfl rfl rfl rfl rfl (by decide) rfl rfl rfl hl.1 (Nat.le_of_ble_eq_true rfl) dX6_time_26 ⟨Nat.zero_le _, Nat.zero_le _⟩ rfl rfl (fun H locs hP hD hS => ?_)
          refine lv_iadd hx hb dX6_time_29 ?_
          refine lv_istore_n (lv' := [(2, .int (x2_4 + r26)), (0, .ref h0), (1, .ref g1), (3, .int x3_4)]) hx hb dX6_time_30 rfl hl (by decide) rfl (fun ls hl => ?_)
          refine lv_iinc (v := x3_4 + (1 : Int32)) (lv' := [(3, .int (x3_4 + (1 : Int32))), (2, .int (x2_4 + r26)), (0, .ref h0), (1, .ref g1)]) hx hb dX6_time_31 hl (k := 3) rfl rfl (by decide) rfl (fun ls hl => ?_)
          refine lv_goto (tgt := 4) hx hb dX6_time_34 (by decide) ?_
          exact ih (x2_4 + r26) (x3_4 + (1 : Int32)) e2_4 _ _ _ hM hP hD hS (lv_sub hl [2, 3, 1, 0] rfl) K
  obtain ⟨e2_4, hL4, hM⟩ := ob1_some hM
  refine L4 N (0 : Int32) (0 : Int32) e2_4 _ _ _ hL4 hP hD hS (lv_sub hl [2, 3, 1, 0] rfl) ?_
  intro H locs ls hP hD hS hl
  refine lv_iload_n hx hb dX6_time_37 rfl (lv_at hl 0 rfl) ?_
  obtain rfl := si1 hM
  exact hret _ _ _ _ _ dX6_time_38 rfl rfl hP hD hS

-- ===== X6_wrongDay wrongDay (LCaveYears$Cave;)I =====
abbrev r6_wrongDay : Room := { frames := 3, cells := 0, slots := 0, locals := 65 }
def f6_wrongDay_L36 (N : Nat) (v_count : Int32) (v_partOf : Nat → Int32) (w1_parts : Int32) (w1_mouths : Int32) (w1_near : Nat → Int32) : Nat → Int32 → Option Int32
  | 0, _ => none
  | n + 1, x2_36 => if v_count ≤ x2_36 then (gi (v_count - (1 : Int32)) 40 (ob1 (f0_hasMouth N (v_partOf (v_count - (1 : Int32)).toNatClampNeg) w1_parts w1_mouths) fun r85 => if r85 = (0 : Int32) then (some v_count) else (some (-1 : Int32)))) else (gi (x2_36 - (1 : Int32)) 40 (gi x2_36 40 (ob1 (f0_mayFollow N (v_partOf (x2_36 - (1 : Int32)).toNatClampNeg) (v_partOf x2_36.toNatClampNeg) w1_parts w1_near) fun r59 => if r59 = (0 : Int32) then (some x2_36) else ((f6_wrongDay_L36 N v_count v_partOf w1_parts w1_mouths w1_near n) (x2_36 + (1 : Int32))))))
def f6_wrongDay (N : Nat) (v_count : Int32) (v_partOf : Nat → Int32) (w1_parts : Int32) (w1_mouths : Int32) (w1_near : Nat → Int32) : Option Int32 :=
  if v_count < (1 : Int32) then (some (-1 : Int32)) else (if v_count ≤ (40 : Int32) then (gi (0 : Int32) 40 (ob1 (f0_hasMouth N (v_partOf (0 : Int32).toNatClampNeg) w1_parts w1_mouths) fun r26 => if r26 = (0 : Int32) then (some (0 : Int32)) else (f6_wrongDay_L36 N v_count v_partOf w1_parts w1_mouths w1_near N (1 : Int32)))) else (some (-1 : Int32)))
set_option maxHeartbeats 4000000 in
set_option maxRecDepth 100000 in
theorem c6_wrongDay (l : Launch) (D : va_G) (cy : Nat → ClassId) (N : Nat) (h0 h0_partOf g1 g1_near : Nat) (og1_2 og1_3 og1_4 og1_5 og1_6 og1_7 og1_9 og1_10 og1_11 og1_12 : Value) (v_count : Int32) (v_partOf : Nat → Int32) (w1_parts : Int32) (w1_mouths : Int32) (w1_near : Nat → Int32) (r : Int32) (hM : f6_wrongDay N v_count v_partOf w1_parts w1_mouths w1_near = some r) (sz : Nat) : CTi l yX6_wrongDay wsX6_wrongDay r6_wrongDay [.ref h0, .ref g1] D cy sz [(h0, .inr (6, [.int v_count, .ref h0_partOf])), (h0_partOf, .inl (cy 2, 40, .inl v_partOf)), (g1, .inr (0, [.int w1_parts, .int w1_mouths, og1_2, og1_3, og1_4, og1_5, og1_6, og1_7, .ref g1_near, og1_9, og1_10, og1_11, og1_12])), (g1_near, .inl (cy 2, 7, .inl w1_near))] [(h0, .inr (6, [.int v_count, .ref h0_partOf])), (h0_partOf, .inl (cy 2, 40, .inl v_partOf)), (g1, .inr (0, [.int w1_parts, .int w1_mouths, og1_2, og1_3, og1_4, og1_5, og1_6, og1_7, .ref g1_near, og1_9, og1_10, og1_11, og1_12])), (g1_near, .inl (cy 2, 7, .inl w1_near))] r := by
  unfold f6_wrongDay at hM
  refine ct_oi (cc := cX6_wrongDay) (maxL := 3) (ty := .int) (by decide +kernel) rfl (Nat.le_of_ble_eq_true rfl) (lv0 := [(0, .ref h0), (1, .ref g1)]) rfl ?_
  intro p e s m args below meth c A Q ls hx hb hts hown hml hK hP hD hS hA hret hl
  have hown : s.vm.findClass RX6 = some m.cls := hown
  have k15 := hts (.fieldLink RX6 15 "CaveYears$Stay" "count" "I") (List.mem_of_getElem? (i := 1) rfl)
  have iX6 := (fun w h => (List.mem_cons_of_mem _ (List.mem_append_left _ (List.mem_append_right _ h))) : ∀ w ∈ wsX60, w ∈ wsX6_wrongDay)
  have k9 := hts (.fieldLink RX6 9 "CaveYears$Stay" "partOf" "[I") (List.mem_of_getElem? (i := 2) rfl)
  refine lv_aload_n hx hb dX6_wrongDay_0 rfl (lv_at hl 0 rfl) ?_
  refine va_get (D := D) (ci := 6) (v := .int v_count) (C := RX6) (T := TX6) (N := 2) hx hb hts iX6 hown hK hP 0 rfl rfl 0 (by decide) k15 (fun _ h9 => h9) rfl dX6_wrongDay_1 ?_
  refine lv_iconst (v := 1) hx hb dX6_wrongDay_4 (by decide) ?_
  refine lv_icmp_lt (tgt := 17) hx hb dX6_wrongDay_5 (by decide) (fun c5 => ?_) (fun c5 => ?_)
  · have hM := g_pos c5 hM
    refine lv_iconst (v := -1) hx hb dX6_wrongDay_17 (by decide) ?_
    obtain rfl := si1 hM
    exact hret _ _ _ _ _ dX6_wrongDay_18 rfl rfl hP hD hS
  · have hM := g_neg c5 hM
    refine lv_aload_n hx hb dX6_wrongDay_8 rfl (lv_at hl 0 rfl) ?_
    refine va_get (D := D) (ci := 6) (v := .int v_count) (C := RX6) (T := TX6) (N := 2) hx hb hts iX6 hown hK hP 0 rfl rfl 0 (by decide) k15 (fun _ h9 => h9) rfl dX6_wrongDay_9 ?_
    refine lv_bipush (v := 40) hx hb dX6_wrongDay_12 (by decide) ?_
    refine lv_icmp_le (tgt := 19) hx hb dX6_wrongDay_14 (by decide) (fun c14 => ?_) (fun c14 => ?_)
    · have hM := g_pos c14 hM
      refine lv_aload_n hx hb dX6_wrongDay_19 rfl (lv_at hl 1 rfl) ?_
      refine lv_aload_n hx hb dX6_wrongDay_20 rfl (lv_at hl 0 rfl) ?_
      refine va_get (D := D) (ci := 6) (v := .ref h0_partOf) (C := RX6) (T := TX6) (N := 2) hx hb hts iX6 hown hK hP 0 rfl rfl 1 (by decide) k9 (fun _ h9 => h9) rfl dX6_wrongDay_21 ?_
      refine lv_iconst (v := 0) hx hb dX6_wrongDay_24 (by decide) ?_
      obtain ⟨h25, hM⟩ := gi_some hM
      refine va_iald hx hb hK hP 1 2 rfl rfl h25 dX6_wrongDay_25 ?_
      obtain ⟨r26, hc26, hM⟩ := ob1_some hM
      refine cl_vi (As := [.int (v_partOf (0 : Int32).toNatClampNeg)]) (rest := []) (ci := 0) (q0 := 2) (wr := [(h0, .inr (6, [.int v_count, .ref h0_partOf])), (h0_partOf, .inl (cy 2, 40, .inl v_partOf)), (g1_near, .inl (cy 2, 7, .inl w1_near))]) (ws2 := [(h0, .inr (6, [.int v_count, .ref h0_partOf])), (h0_partOf, .inl (cy 2, 40, .inl v_partOf)), (g1, .inr (0, [.int w1_parts, .int w1_mouths, og1_2, og1_3, og1_4, og1_5, og1_6, og1_7, .ref g1_near, og1_9, og1_10, og1_11, og1_12])), (g1_near, .inl (cy 2, 7, .inl w1_near))]) (isC := [2]) (isR := [0, 1, 3]) (pm := [0, 1, 3, 2]) hx hb hml hown hts (c0_hasMouth l D cy N g1 og1_2 og1_3 og1_4 og1_5 og1_6 og1_7 (.ref g1_near) og1_9 og1_10 og1_11 og1_12 (v_partOf (0 : Int32).toNatClampNeg) w1_parts w1_mouths r26 hc26) (cwV 1 hts gX6_wrongDay_X0_hasMouth rfl rfl rfl (by decide +kernel) ⟨Nat.le_of_ble_eq_true rfl, Nat.le_of_ble_eq_true rfl⟩) hK hP hD hS hA rfl rfl rfl rfl rfl (by decide) rfl rfl rfl hl.1 (Nat.le_of_ble_eq_true rfl) dX6_wrongDay_26 ⟨Nat.zero_le _, Nat.zero_le _⟩ rfl rfl (fun H locs hP hD hS => ?_)
      refine lv_if_ne (tgt := 34) hx hb dX6_wrongDay_29 (by decide) (fun c29 => ?_) (fun c29 => ?_)
      · have hM := g_neg c29 hM
        refine lv_iconst (v := 1) hx hb dX6_wrongDay_34 (by decide) ?_
        refine lv_istore_n (lv' := [(2, .int (1 : Int32)), (0, .ref h0), (1, .ref g1)]) hx hb dX6_wrongDay_35 rfl hl (by decide) rfl (fun ls hl => ?_)
        have L36 : ∀ (n : Nat) (x2_36 : Int32) (H : Heap) (locs : List Loc) (ls : Array Slot), f6_wrongDay_L36 N v_count v_partOf w1_parts w1_mouths w1_near n x2_36 = some r → va_P D vwCl [(h0, .inr (6, [.int v_count, .ref h0_partOf])), (h0_partOf, .inl (cy 2, 40, .inl v_partOf)), (g1, .inr (0, [.int w1_parts, .int w1_mouths, og1_2, og1_3, og1_4, og1_5, og1_6, og1_7, .ref g1_near, og1_9, og1_10, og1_11, og1_12])), (g1_near, .inl (cy 2, 7, .inl w1_near))] H → va_D A [(h0, .inr (6, [.int v_count, .ref h0_partOf])), (h0_partOf, .inl (cy 2, 40, .inl v_partOf)), (g1, .inr (0, [.int w1_parts, .int w1_mouths, og1_2, og1_3, og1_4, og1_5, og1_6, og1_7, .ref g1_near, og1_9, og1_10, og1_11, og1_12])), (g1_near, .inl (cy 2, 7, .inl w1_near))] → va_S A s.heap H locs → lv_has ls 3 [(0, .ref h0), (1, .ref g1), (2, .int x2_36)] → W p l e r6_wrongDay s m args below meth c H locs 0 0 Q (F0 m 36 ls []) := by
          intro n
          induction n with
          | zero =>
            intro x2_36 H locs ls hM
            exact absurd hM (by simp [f6_wrongDay_L36])
          | succ n ih =>
            intro x2_36 H locs ls hM hP hD hS hl
            rw [f6_wrongDay_L36] at hM
            refine lv_iload_n hx hb dX6_wrongDay_36 rfl (lv_at hl 2 rfl) ?_
            refine lv_aload_n hx hb dX6_wrongDay_37 rfl (lv_at hl 0 rfl) ?_
            refine va_get (D := D) (ci := 6) (v := .int v_count) (C := RX6) (T := TX6) (N := 2) hx hb hts iX6 hown hK hP 0 rfl rfl 0 (by decide) k15 (fun _ h9 => h9) rfl dX6_wrongDay_38 ?_
            refine lv_icmp_ge (tgt := 73) hx hb dX6_wrongDay_41 (by decide) (fun c41 => ?_) (fun c41 => ?_)
            · have hM := g_pos c41 hM
              refine lv_aload_n hx hb dX6_wrongDay_73 rfl (lv_at hl 1 rfl) ?_
              refine lv_aload_n hx hb dX6_wrongDay_74 rfl (lv_at hl 0 rfl) ?_
              refine va_get (D := D) (ci := 6) (v := .ref h0_partOf) (C := RX6) (T := TX6) (N := 2) hx hb hts iX6 hown hK hP 0 rfl rfl 1 (by decide) k9 (fun _ h9 => h9) rfl dX6_wrongDay_75 ?_
              refine lv_aload_n hx hb dX6_wrongDay_78 rfl (lv_at hl 0 rfl) ?_
              refine va_get (D := D) (ci := 6) (v := .int v_count) (C := RX6) (T := TX6) (N := 2) hx hb hts iX6 hown hK hP 0 rfl rfl 0 (by decide) k15 (fun _ h9 => h9) rfl dX6_wrongDay_79 ?_
              refine lv_iconst (v := 1) hx hb dX6_wrongDay_82 (by decide) ?_
              refine lv_isub hx hb dX6_wrongDay_83 ?_
              obtain ⟨h84, hM⟩ := gi_some hM
              refine va_iald hx hb hK hP 1 2 rfl rfl h84 dX6_wrongDay_84 ?_
              obtain ⟨r85, hc85, hM⟩ := ob1_some hM
              refine cl_vi (As := [.int (v_partOf (v_count - (1 : Int32)).toNatClampNeg)]) (rest := []) (ci := 0) (q0 := 2) (wr := [(h0, .inr (6, [.int v_count, .ref h0_partOf])), (h0_partOf, .inl (cy 2, 40, .inl v_partOf)), (g1_near, .inl (cy 2, 7, .inl w1_near))]) (ws2 := [(h0, .inr (6, [.int v_count, .ref h0_partOf])), (h0_partOf, .inl (cy 2, 40, .inl v_partOf)), (g1, .inr (0, [.int w1_parts, .int w1_mouths, og1_2, og1_3, og1_4, og1_5, og1_6, og1_7, .ref g1_near, og1_9, og1_10, og1_11, og1_12])), (g1_near, .inl (cy 2, 7, .inl w1_near))]) (isC := [2]) (isR := [0, 1, 3]) (pm := [0, 1, 3, 2]) hx hb hml hown hts (c0_hasMouth l D cy N g1 og1_2 og1_3 og1_4 og1_5 og1_6 og1_7 (.ref g1_near) og1_9 og1_10 og1_11 og1_12 (v_partOf (v_count - (1 : Int32)).toNatClampNeg) w1_parts w1_mouths r85 hc85) (cwV 1 hts gX6_wrongDay_X0_hasMouth rfl rfl rfl (by decide +kernel) ⟨Nat.le_of_ble_eq_true rfl, Nat.le_of_ble_eq_true rfl⟩) hK hP hD hS hA rfl rfl rfl rfl rfl (by decide) rfl rfl rfl hl.1 (Nat.le_of_ble_eq_true rfl) dX6_wrongDay_85 ⟨Nat.zero_le _, Nat.zero_le _⟩ rfl rfl (fun H locs hP hD hS => ?_)
              refine lv_if_eq (tgt := 95) hx hb dX6_wrongDay_88 (by decide) (fun c88 => ?_) (fun c88 => ?_)
              · have hM := g_pos c88 hM
                refine lv_aload_n hx hb dX6_wrongDay_95 rfl (lv_at hl 0 rfl) ?_
                refine va_get (D := D) (ci := 6) (v := .int v_count) (C := RX6) (T := TX6) (N := 2) hx hb hts iX6 hown hK hP 0 rfl rfl 0 (by decide) k15 (fun _ h9 => h9) rfl dX6_wrongDay_96 ?_
                obtain rfl := si1 hM
                exact hret _ _ _ _ _ dX6_wrongDay_99 rfl rfl hP hD hS
              · have hM := g_neg c88 hM
                refine lv_iconst (v := -1) hx hb dX6_wrongDay_91 (by decide) ?_
                refine lv_goto (tgt := 99) hx hb dX6_wrongDay_92 (by decide) ?_
                obtain rfl := si1 hM
                exact hret _ _ _ _ _ dX6_wrongDay_99 rfl rfl hP hD hS
            · have hM := g_neg c41 hM
              refine lv_aload_n hx hb dX6_wrongDay_44 rfl (lv_at hl 1 rfl) ?_
              refine lv_aload_n hx hb dX6_wrongDay_45 rfl (lv_at hl 0 rfl) ?_
              refine va_get (D := D) (ci := 6) (v := .ref h0_partOf) (C := RX6) (T := TX6) (N := 2) hx hb hts iX6 hown hK hP 0 rfl rfl 1 (by decide) k9 (fun _ h9 => h9) rfl dX6_wrongDay_46 ?_
              refine lv_iload_n hx hb dX6_wrongDay_49 rfl (lv_at hl 2 rfl) ?_
              refine lv_iconst (v := 1) hx hb dX6_wrongDay_50 (by decide) ?_
              refine lv_isub hx hb dX6_wrongDay_51 ?_
              obtain ⟨h52, hM⟩ := gi_some hM
              refine va_iald hx hb hK hP 1 2 rfl rfl h52 dX6_wrongDay_52 ?_
              refine lv_aload_n hx hb dX6_wrongDay_53 rfl (lv_at hl 0 rfl) ?_
              refine va_get (D := D) (ci := 6) (v := .ref h0_partOf) (C := RX6) (T := TX6) (N := 2) hx hb hts iX6 hown hK hP 0 rfl rfl 1 (by decide) k9 (fun _ h9 => h9) rfl dX6_wrongDay_54 ?_
              refine lv_iload_n hx hb dX6_wrongDay_57 rfl (lv_at hl 2 rfl) ?_
              obtain ⟨h58, hM⟩ := gi_some hM
              refine va_iald hx hb hK hP 1 2 rfl rfl h58 dX6_wrongDay_58 ?_
              obtain ⟨r59, hc59, hM⟩ := ob1_some hM
              refine cl_vi (As := [.int (v_partOf (x2_36 - (1 : Int32)).toNatClampNeg), .int (v_partOf x2_36.toNatClampNeg)]) (rest := []) (ci := 0) (q0 := 2) (wr := [(h0, .inr (6, [.int v_count, .ref h0_partOf])), (h0_partOf, .inl (cy 2, 40, .inl v_partOf))]) (ws2 := [(h0, .inr (6, [.int v_count, .ref h0_partOf])), (h0_partOf, .inl (cy 2, 40, .inl v_partOf)), (g1, .inr (0, [.int w1_parts, .int w1_mouths, og1_2, og1_3, og1_4, og1_5, og1_6, og1_7, .ref g1_near, og1_9, og1_10, og1_11, og1_12])), (g1_near, .inl (cy 2, 7, .inl w1_near))]) (isC := [2, 3]) (isR := [0, 1]) (pm := [0, 1, 2, 3]) hx hb hml hown hts (c0_mayFollow l D cy N g1 g1_near (.int w1_mouths) og1_2 og1_3 og1_4 og1_5 og1_6 og1_7 og1_9 og1_10 og1_11 og1_12 (v_partOf (x2_36 - (1 : Int32)).toNatClampNeg) (v_partOf x2_36.toNatClampNeg) w1_parts w1_near r59 hc59) (cwV 2 hts gX6_wrongDay_X0_mayFollow rfl rfl rfl (by decide +kernel) ⟨Nat.le_of_ble_eq_true rfl, Nat.le_of_ble_eq_true rfl⟩) hK hP hD hS hA rfl rfl rfl rfl rfl (by decide) rfl rfl rfl hl.1 (Nat.le_of_ble_eq_true rfl) dX6_wrongDay_59 ⟨Nat.zero_le _, Nat.zero_le _⟩ rfl rfl (fun H locs hP hD hS => ?_)
              refine lv_if_ne (tgt := 67) hx hb dX6_wrongDay_62 (by decide) (fun c62 => ?_) (fun c62 => ?_)
              · have hM := g_neg c62 hM
                refine lv_iinc (v := x2_36 + (1 : Int32)) (lv' := [(2, .int (x2_36 + (1 : Int32))), (0, .ref h0), (1, .ref g1)]) hx hb dX6_wrongDay_67 hl (k := 2) rfl rfl (by decide) rfl (fun ls hl => ?_)
                refine lv_goto (tgt := 36) hx hb dX6_wrongDay_70 (by decide) ?_
                exact ih (x2_36 + (1 : Int32)) _ _ _ hM hP hD hS (lv_sub hl [1, 2, 0] rfl)
              · have hM := g_pos c62 hM
                refine lv_iload_n hx hb dX6_wrongDay_65 rfl (lv_at hl 2 rfl) ?_
                obtain rfl := si1 hM
                exact hret _ _ _ _ _ dX6_wrongDay_66 rfl rfl hP hD hS
        exact L36 N (1 : Int32) _ _ _ hM hP hD hS (lv_sub hl [1, 2, 0] rfl)
      · have hM := g_pos c29 hM
        refine lv_iconst (v := 0) hx hb dX6_wrongDay_32 (by decide) ?_
        obtain rfl := si1 hM
        exact hret _ _ _ _ _ dX6_wrongDay_33 rfl rfl hP hD hS
    · have hM := g_neg c14 hM
      refine lv_iconst (v := -1) hx hb dX6_wrongDay_17 (by decide) ?_
      obtain rfl := si1 hM
      exact hret _ _ _ _ _ dX6_wrongDay_18 rfl rfl hP hD hS

-- ===== X7_add add (II)I =====
abbrev r7_add : Room := { frames := 0, cells := 0, slots := 0, locals := 0 }
def f7_add (N : Nat) (p1 : Int32) (p2 : Int32) (v_count : Int32) (v_days : Nat → Int32) (v_ticks : Nat → Int32) : Option (Int32 × Int32 × (Nat → Int32) × (Nat → Int32)) :=
  if v_count < (0 : Int32) then (some ((-1000000004 : Int32), v_count, v_days, v_ticks)) else (if v_count < (10 : Int32) then (gi v_count 10 (gi v_count 10 (some ((v_count + (1 : Int32)), (v_count + (1 : Int32)), (upd v_days v_count.toNatClampNeg p1), (upd v_ticks v_count.toNatClampNeg p2))))) else (some ((-1000000004 : Int32), v_count, v_days, v_ticks)))
set_option maxHeartbeats 4000000 in
set_option maxRecDepth 100000 in
theorem c7_add (l : Launch) (D : va_G) (cy : Nat → ClassId) (N : Nat) (h0 h0_days h0_ticks : Nat) (p1 : Int32) (p2 : Int32) (v_count : Int32) (v_days : Nat → Int32) (v_ticks : Nat → Int32) (r : Int32) (nv_count : Int32) (nv_days : Nat → Int32) (nv_ticks : Nat → Int32) (hM : f7_add N p1 p2 v_count v_days v_ticks = some (r, nv_count, nv_days, nv_ticks)) (sz : Nat) : CTi l yX7_add wsX7_add r7_add [.ref h0, .int p1, .int p2] D cy sz [(h0, .inr (7, [.int v_count, .ref h0_days, .ref h0_ticks])), (h0_days, .inl (cy 2, 10, .inl v_days)), (h0_ticks, .inl (cy 2, 10, .inl v_ticks))] [(h0, .inr (7, [.int nv_count, .ref h0_days, .ref h0_ticks])), (h0_days, .inl (cy 2, 10, .inl nv_days)), (h0_ticks, .inl (cy 2, 10, .inl nv_ticks))] r := by
  unfold f7_add at hM
  refine ct_oi (cc := cX7_add) (maxL := 3) (ty := .int) (by decide +kernel) rfl (Nat.le_of_ble_eq_true rfl) (lv0 := [(0, .ref h0), (1, .int p1), (2, .int p2)]) rfl ?_
  intro p e s m args below meth c A Q ls hx hb hts hown hml hK hP hD hS hA hret hl
  have hown : s.vm.findClass RX7 = some m.cls := hown
  have k18 := hts (.fieldLink RX7 18 "CaveYears$Trials" "count" "I") (List.mem_of_getElem? (i := 1) rfl)
  have iX7 := (fun w h => (List.mem_cons_of_mem _ (List.mem_append_right _ h)) : ∀ w ∈ wsX70, w ∈ wsX7_add)
  have k22 := hts (.constant RX7 22 (-1000000004)) (List.mem_of_getElem? (i := 2) rfl)
  have k9 := hts (.fieldLink RX7 9 "CaveYears$Trials" "days" "[I") (List.mem_of_getElem? (i := 3) rfl)
  have k15 := hts (.fieldLink RX7 15 "CaveYears$Trials" "ticks" "[I") (List.mem_of_getElem? (i := 4) rfl)
  refine lv_aload_n hx hb dX7_add_0 rfl (lv_at hl 0 rfl) ?_
  refine va_get (D := D) (ci := 7) (v := .int v_count) (C := RX7) (T := TX7) (N := 3) hx hb hts iX7 hown hK hP 0 rfl rfl 0 (by decide) k18 (fun _ h9 => h9) rfl dX7_add_1 ?_
  refine lv_if_lt (tgt := 16) hx hb dX7_add_4 (by decide) (fun c4 => ?_) (fun c4 => ?_)
  · have hM := g_pos c4 hM
    refine lv_ldc (v := -1000000004) hx hb hown k22 dX7_add_16 ?_
    obtain ⟨rfl, rfl, rfl, rfl⟩ := si4 hM
    exact hret _ _ _ _ _ dX7_add_18 rfl rfl hP hD hS
  · have hM := g_neg c4 hM
    refine lv_aload_n hx hb dX7_add_7 rfl (lv_at hl 0 rfl) ?_
    refine va_get (D := D) (ci := 7) (v := .int v_count) (C := RX7) (T := TX7) (N := 3) hx hb hts iX7 hown hK hP 0 rfl rfl 0 (by decide) k18 (fun _ h9 => h9) rfl dX7_add_8 ?_
    refine lv_bipush (v := 10) hx hb dX7_add_11 (by decide) ?_
    refine lv_icmp_lt (tgt := 19) hx hb dX7_add_13 (by decide) (fun c13 => ?_) (fun c13 => ?_)
    · have hM := g_pos c13 hM
      refine lv_aload_n hx hb dX7_add_19 rfl (lv_at hl 0 rfl) ?_
      refine va_get (D := D) (ci := 7) (v := .ref h0_days) (C := RX7) (T := TX7) (N := 3) hx hb hts iX7 hown hK hP 0 rfl rfl 1 (by decide) k9 (fun _ h9 => h9) rfl dX7_add_20 ?_
      refine lv_aload_n hx hb dX7_add_23 rfl (lv_at hl 0 rfl) ?_
      refine va_get (D := D) (ci := 7) (v := .int v_count) (C := RX7) (T := TX7) (N := 3) hx hb hts iX7 hown hK hP 0 rfl rfl 0 (by decide) k18 (fun _ h9 => h9) rfl dX7_add_24 ?_
      refine lv_iload_n hx hb dX7_add_27 rfl (lv_at hl 1 rfl) ?_
      obtain ⟨h28, hM⟩ := gi_some hM
      refine va_iast hx hb hK hP hD hS 1 2 rfl rfl h28 dX7_add_28 (fun H locs hP hD hS => ?_)
      have hP : va_P D vwCl [(h0, .inr (7, [.int v_count, .ref h0_days, .ref h0_ticks])), (h0_days, .inl (cy 2, 10, .inl (upd v_days v_count.toNatClampNeg p1))), (h0_ticks, .inl (cy 2, 10, .inl v_ticks))] H := hP
      have hD : va_D A [(h0, .inr (7, [.int v_count, .ref h0_days, .ref h0_ticks])), (h0_days, .inl (cy 2, 10, .inl (upd v_days v_count.toNatClampNeg p1))), (h0_ticks, .inl (cy 2, 10, .inl v_ticks))] := hD
      refine lv_aload_n hx hb dX7_add_29 rfl (lv_at hl 0 rfl) ?_
      refine va_get (D := D) (ci := 7) (v := .ref h0_ticks) (C := RX7) (T := TX7) (N := 3) hx hb hts iX7 hown hK hP 0 rfl rfl 2 (by decide) k15 (fun _ h9 => h9) rfl dX7_add_30 ?_
      refine lv_aload_n hx hb dX7_add_33 rfl (lv_at hl 0 rfl) ?_
      refine va_get (D := D) (ci := 7) (v := .int v_count) (C := RX7) (T := TX7) (N := 3) hx hb hts iX7 hown hK hP 0 rfl rfl 0 (by decide) k18 (fun _ h9 => h9) rfl dX7_add_34 ?_
      refine lv_iload_n hx hb dX7_add_37 rfl (lv_at hl 2 rfl) ?_
      obtain ⟨h38, hM⟩ := gi_some hM
      refine va_iast hx hb hK hP hD hS 2 2 rfl rfl h38 dX7_add_38 (fun H locs hP hD hS => ?_)
      have hP : va_P D vwCl [(h0, .inr (7, [.int v_count, .ref h0_days, .ref h0_ticks])), (h0_days, .inl (cy 2, 10, .inl (upd v_days v_count.toNatClampNeg p1))), (h0_ticks, .inl (cy 2, 10, .inl (upd v_ticks v_count.toNatClampNeg p2)))] H := hP
      have hD : va_D A [(h0, .inr (7, [.int v_count, .ref h0_days, .ref h0_ticks])), (h0_days, .inl (cy 2, 10, .inl (upd v_days v_count.toNatClampNeg p1))), (h0_ticks, .inl (cy 2, 10, .inl (upd v_ticks v_count.toNatClampNeg p2)))] := hD
      refine lv_aload_n hx hb dX7_add_39 rfl (lv_at hl 0 rfl) ?_
      refine lv_dup hx hb dX7_add_40 rfl ?_
      refine va_get (D := D) (ci := 7) (v := .int v_count) (C := RX7) (T := TX7) (N := 3) hx hb hts iX7 hown hK hP 0 rfl rfl 0 (by decide) k18 (fun _ h9 => h9) rfl dX7_add_41 ?_
      refine lv_iconst (v := 1) hx hb dX7_add_44 (by decide) ?_
      refine lv_iadd hx hb dX7_add_45 ?_
      refine va_put (D := D) (ci := 7) (v := .int (v_count + (1 : Int32))) (ty := .int) (C := RX7) (T := TX7) (N := 3) hx hb hts iX7 tyX7 tyX7_ok nmX7 hown hK hP hD hS 0 rfl rfl 0 (by decide) k18 (fun _ h9 => h9) rfl (by decide +kernel) rfl rfl (Nat.le_of_ble_eq_true rfl) dX7_add_46 (fun H locs hP hD hS => ?_)
      have hP : va_P D vwCl [(h0, .inr (7, [.int (v_count + (1 : Int32)), .ref h0_days, .ref h0_ticks])), (h0_days, .inl (cy 2, 10, .inl (upd v_days v_count.toNatClampNeg p1))), (h0_ticks, .inl (cy 2, 10, .inl (upd v_ticks v_count.toNatClampNeg p2)))] H := hP
      have hD : va_D A [(h0, .inr (7, [.int (v_count + (1 : Int32)), .ref h0_days, .ref h0_ticks])), (h0_days, .inl (cy 2, 10, .inl (upd v_days v_count.toNatClampNeg p1))), (h0_ticks, .inl (cy 2, 10, .inl (upd v_ticks v_count.toNatClampNeg p2)))] := hD
      refine lv_aload_n hx hb dX7_add_49 rfl (lv_at hl 0 rfl) ?_
      refine va_get (D := D) (ci := 7) (v := .int (v_count + (1 : Int32))) (C := RX7) (T := TX7) (N := 3) hx hb hts iX7 hown hK hP 0 rfl rfl 0 (by decide) k18 (fun _ h9 => h9) rfl dX7_add_50 ?_
      obtain ⟨rfl, rfl, rfl, rfl⟩ := si4 hM
      exact hret _ _ _ _ _ dX7_add_53 rfl rfl hP hD hS
    · have hM := g_neg c13 hM
      refine lv_ldc (v := -1000000004) hx hb hown k22 dX7_add_16 ?_
      obtain ⟨rfl, rfl, rfl, rfl⟩ := si4 hM
      exact hret _ _ _ _ _ dX7_add_18 rfl rfl hP hD hS

-- ===== X7_fitAll fitAll (I)Z =====
abbrev r7_fitAll : Room := { frames := 0, cells := 0, slots := 0, locals := 0 }
def f7_fitAll_L2 (N : Nat) (p1 : Int32) (v_count : Int32) (v_days : Nat → Int32) (v_ticks : Nat → Int32) : Nat → Int32 → Option Int32
  | 0, _ => none
  | n + 1, x2_2 => if v_count ≤ x2_2 then (some (1 : Int32)) else (if (10 : Int32) ≤ x2_2 then (some (1 : Int32)) else (gi x2_2 10 (gi x2_2 10 (if ((v_days x2_2.toNatClampNeg) * p1) = (v_ticks x2_2.toNatClampNeg) then ((f7_fitAll_L2 N p1 v_count v_days v_ticks n) (x2_2 + (1 : Int32))) else (some (0 : Int32))))))
def f7_fitAll (N : Nat) (p1 : Int32) (v_count : Int32) (v_days : Nat → Int32) (v_ticks : Nat → Int32) : Option Int32 :=
  f7_fitAll_L2 N p1 v_count v_days v_ticks N (0 : Int32)
set_option maxHeartbeats 4000000 in
set_option maxRecDepth 100000 in
theorem c7_fitAll (l : Launch) (D : va_G) (cy : Nat → ClassId) (N : Nat) (h0 h0_days h0_ticks : Nat) (p1 : Int32) (v_count : Int32) (v_days : Nat → Int32) (v_ticks : Nat → Int32) (r : Int32) (hM : f7_fitAll N p1 v_count v_days v_ticks = some r) (sz : Nat) : CTi l yX7_fitAll wsX7_fitAll r7_fitAll [.ref h0, .int p1] D cy sz [(h0, .inr (7, [.int v_count, .ref h0_days, .ref h0_ticks])), (h0_days, .inl (cy 2, 10, .inl v_days)), (h0_ticks, .inl (cy 2, 10, .inl v_ticks))] [(h0, .inr (7, [.int v_count, .ref h0_days, .ref h0_ticks])), (h0_days, .inl (cy 2, 10, .inl v_days)), (h0_ticks, .inl (cy 2, 10, .inl v_ticks))] r := by
  unfold f7_fitAll at hM
  refine ct_oi (cc := cX7_fitAll) (maxL := 3) (ty := .boolean) (by decide +kernel) rfl (Nat.le_of_ble_eq_true rfl) (lv0 := [(0, .ref h0), (1, .int p1)]) rfl ?_
  intro p e s m args below meth c A Q ls hx hb hts hown hml hK hP hD hS hA hret hl
  have hown : s.vm.findClass RX7 = some m.cls := hown
  have k18 := hts (.fieldLink RX7 18 "CaveYears$Trials" "count" "I") (List.mem_of_getElem? (i := 1) rfl)
  have iX7 := (fun w h => (List.mem_cons_of_mem _ (List.mem_append_right _ h)) : ∀ w ∈ wsX70, w ∈ wsX7_fitAll)
  have k9 := hts (.fieldLink RX7 9 "CaveYears$Trials" "days" "[I") (List.mem_of_getElem? (i := 2) rfl)
  have k15 := hts (.fieldLink RX7 15 "CaveYears$Trials" "ticks" "[I") (List.mem_of_getElem? (i := 3) rfl)
  refine lv_iconst (v := 0) hx hb dX7_fitAll_0 (by decide) ?_
  refine lv_istore_n (lv' := [(2, .int (0 : Int32)), (0, .ref h0), (1, .int p1)]) hx hb dX7_fitAll_1 rfl hl (by decide) rfl (fun ls hl => ?_)
  have L2 : ∀ (n : Nat) (x2_2 : Int32) (H : Heap) (locs : List Loc) (ls : Array Slot), f7_fitAll_L2 N p1 v_count v_days v_ticks n x2_2 = some r → va_P D vwCl [(h0, .inr (7, [.int v_count, .ref h0_days, .ref h0_ticks])), (h0_days, .inl (cy 2, 10, .inl v_days)), (h0_ticks, .inl (cy 2, 10, .inl v_ticks))] H → va_D A [(h0, .inr (7, [.int v_count, .ref h0_days, .ref h0_ticks])), (h0_days, .inl (cy 2, 10, .inl v_days)), (h0_ticks, .inl (cy 2, 10, .inl v_ticks))] → va_S A s.heap H locs → lv_has ls 3 [(0, .ref h0), (1, .int p1), (2, .int x2_2)] → W p l e r7_fitAll s m args below meth c H locs 0 0 Q (F0 m 2 ls []) := by
    intro n
    induction n with
    | zero =>
      intro x2_2 H locs ls hM
      exact absurd hM (by simp [f7_fitAll_L2])
    | succ n ih =>
      intro x2_2 H locs ls hM hP hD hS hl
      rw [f7_fitAll_L2] at hM
      refine lv_iload_n hx hb dX7_fitAll_2 rfl (lv_at hl 2 rfl) ?_
      refine lv_aload_n hx hb dX7_fitAll_3 rfl (lv_at hl 0 rfl) ?_
      refine va_get (D := D) (ci := 7) (v := .int v_count) (C := RX7) (T := TX7) (N := 3) hx hb hts iX7 hown hK hP 0 rfl rfl 0 (by decide) k18 (fun _ h9 => h9) rfl dX7_fitAll_4 ?_
      refine lv_icmp_ge (tgt := 41) hx hb dX7_fitAll_7 (by decide) (fun c7 => ?_) (fun c7 => ?_)
      · have hM := g_pos c7 hM
        refine lv_iconst (v := 1) hx hb dX7_fitAll_41 (by decide) ?_
        obtain rfl := si1 hM
        exact hret _ _ _ _ _ dX7_fitAll_42 rfl rfl hP hD hS
      · have hM := g_neg c7 hM
        refine lv_iload_n hx hb dX7_fitAll_10 rfl (lv_at hl 2 rfl) ?_
        refine lv_bipush (v := 10) hx hb dX7_fitAll_11 (by decide) ?_
        refine lv_icmp_ge (tgt := 41) hx hb dX7_fitAll_13 (by decide) (fun c13 => ?_) (fun c13 => ?_)
        · have hM := g_pos c13 hM
          refine lv_iconst (v := 1) hx hb dX7_fitAll_41 (by decide) ?_
          obtain rfl := si1 hM
          exact hret _ _ _ _ _ dX7_fitAll_42 rfl rfl hP hD hS
        · have hM := g_neg c13 hM
          refine lv_aload_n hx hb dX7_fitAll_16 rfl (lv_at hl 0 rfl) ?_
          refine va_get (D := D) (ci := 7) (v := .ref h0_days) (C := RX7) (T := TX7) (N := 3) hx hb hts iX7 hown hK hP 0 rfl rfl 1 (by decide) k9 (fun _ h9 => h9) rfl dX7_fitAll_17 ?_
          refine lv_iload_n hx hb dX7_fitAll_20 rfl (lv_at hl 2 rfl) ?_
          obtain ⟨h21, hM⟩ := gi_some hM
          refine va_iald hx hb hK hP 1 2 rfl rfl h21 dX7_fitAll_21 ?_
          refine lv_iload_n hx hb dX7_fitAll_22 rfl (lv_at hl 1 rfl) ?_
          refine lv_imul hx hb dX7_fitAll_23 ?_
          refine lv_aload_n hx hb dX7_fitAll_24 rfl (lv_at hl 0 rfl) ?_
          refine va_get (D := D) (ci := 7) (v := .ref h0_ticks) (C := RX7) (T := TX7) (N := 3) hx hb hts iX7 hown hK hP 0 rfl rfl 2 (by decide) k15 (fun _ h9 => h9) rfl dX7_fitAll_25 ?_
          refine lv_iload_n hx hb dX7_fitAll_28 rfl (lv_at hl 2 rfl) ?_
          obtain ⟨h29, hM⟩ := gi_some hM
          refine va_iald hx hb hK hP 2 2 rfl rfl h29 dX7_fitAll_29 ?_
          refine lv_icmp_eq (tgt := 35) hx hb dX7_fitAll_30 (by decide) (fun c30 => ?_) (fun c30 => ?_)
          · have hM := g_pos c30 hM
            refine lv_iinc (v := x2_2 + (1 : Int32)) (lv' := [(2, .int (x2_2 + (1 : Int32))), (0, .ref h0), (1, .int p1)]) hx hb dX7_fitAll_35 hl (k := 2) rfl rfl (by decide) rfl (fun ls hl => ?_)
            refine lv_goto (tgt := 2) hx hb dX7_fitAll_38 (by decide) ?_
            exact ih (x2_2 + (1 : Int32)) _ _ _ hM hP hD hS (lv_sub hl [1, 2, 0] rfl)
          · have hM := g_neg c30 hM
            refine lv_iconst (v := 0) hx hb dX7_fitAll_33 (by decide) ?_
            obtain rfl := si1 hM
            exact hret _ _ _ _ _ dX7_fitAll_34 rfl rfl hP hD hS
  exact L2 N (0 : Int32) _ _ _ hM hP hD hS (lv_sub hl [1, 2, 0] rfl)

-- ===== X7_fittingSet fittingSet (LCaveYears$Cave;)I =====
abbrev r7_fittingSet : Room := { frames := 2, cells := 0, slots := 0, locals := 42 }
def f7_fittingSet_L4 (N : Nat) (v_count : Int32) (v_days : Nat → Int32) (v_ticks : Nat → Int32) (w1_parts : Int32) (w1_rate : Nat → Int32) : Nat → Int32 → Int32 → Option Int32
  | 0, _, _ => none
  | n + 1, x2_4, x3_4 => if (7 : Int32) ≤ x3_4 then (some x2_4) else (ob1 (f0_hasPart N x3_4 w1_parts) fun r12 => if r12 = (0 : Int32) then ((f7_fittingSet_L4 N v_count v_days v_ticks w1_parts w1_rate n) x2_4 (x3_4 + (1 : Int32))) else (ob1 (f0_rateOf N x3_4 w1_parts w1_rate) fun r21 => ob1 (f7_fitAll N r21 v_count v_days v_ticks) fun r24 => if r24 = (0 : Int32) then ((f7_fittingSet_L4 N v_count v_days v_ticks w1_parts w1_rate n) x2_4 (x3_4 + (1 : Int32))) else ((f7_fittingSet_L4 N v_count v_days v_ticks w1_parts w1_rate n) (x2_4 ||| ((1 : Int32) <<< (x3_4 &&& 31))) (x3_4 + (1 : Int32)))))
def f7_fittingSet (N : Nat) (v_count : Int32) (v_days : Nat → Int32) (v_ticks : Nat → Int32) (w1_parts : Int32) (w1_rate : Nat → Int32) : Option Int32 :=
  ob1 (f7_fittingSet_L4 N v_count v_days v_ticks w1_parts w1_rate N (0 : Int32) (0 : Int32)) fun e2_4 => some e2_4
set_option maxHeartbeats 4000000 in
set_option maxRecDepth 100000 in
theorem c7_fittingSet (l : Launch) (D : va_G) (cy : Nat → ClassId) (N : Nat) (h0 h0_days h0_ticks g1 g1_rate : Nat) (og1_1 og1_2 og1_3 og1_4 og1_5 og1_6 og1_8 og1_9 og1_10 og1_11 og1_12 : Value) (v_count : Int32) (v_days : Nat → Int32) (v_ticks : Nat → Int32) (w1_parts : Int32) (w1_rate : Nat → Int32) (r : Int32) (hM : f7_fittingSet N v_count v_days v_ticks w1_parts w1_rate = some r) (sz : Nat) : CTi l yX7_fittingSet wsX7_fittingSet r7_fittingSet [.ref h0, .ref g1] D cy sz [(h0, .inr (7, [.int v_count, .ref h0_days, .ref h0_ticks])), (h0_days, .inl (cy 2, 10, .inl v_days)), (h0_ticks, .inl (cy 2, 10, .inl v_ticks)), (g1, .inr (0, [.int w1_parts, og1_1, og1_2, og1_3, og1_4, og1_5, og1_6, .ref g1_rate, og1_8, og1_9, og1_10, og1_11, og1_12])), (g1_rate, .inl (cy 2, 7, .inl w1_rate))] [(h0, .inr (7, [.int v_count, .ref h0_days, .ref h0_ticks])), (h0_days, .inl (cy 2, 10, .inl v_days)), (h0_ticks, .inl (cy 2, 10, .inl v_ticks)), (g1, .inr (0, [.int w1_parts, og1_1, og1_2, og1_3, og1_4, og1_5, og1_6, .ref g1_rate, og1_8, og1_9, og1_10, og1_11, og1_12])), (g1_rate, .inl (cy 2, 7, .inl w1_rate))] r := by
  unfold f7_fittingSet at hM
  refine ct_oi (cc := cX7_fittingSet) (maxL := 4) (ty := .int) (by decide +kernel) rfl (Nat.le_of_ble_eq_true rfl) (lv0 := [(0, .ref h0), (1, .ref g1)]) rfl ?_
  intro p e s m args below meth c A Q ls hx hb hts hown hml hK hP hD hS hA hret hl
  have hown : s.vm.findClass RX7 = some m.cls := hown
  refine lv_iconst (v := 0) hx hb dX7_fittingSet_0 (by decide) ?_
  refine lv_istore_n (lv' := [(2, .int (0 : Int32)), (0, .ref h0), (1, .ref g1)]) hx hb dX7_fittingSet_1 rfl hl (by decide) rfl (fun ls hl => ?_)
  refine lv_iconst (v := 0) hx hb dX7_fittingSet_2 (by decide) ?_
  refine lv_istore_n (lv' := [(3, .int (0 : Int32)), (2, .int (0 : Int32)), (0, .ref h0), (1, .ref g1)]) hx hb dX7_fittingSet_3 rfl hl (by decide) rfl (fun ls hl => ?_)
  have L4 : ∀ (n : Nat) (x2_4 : Int32) (x3_4 : Int32) (e2_4 : Int32) (H : Heap) (locs : List Loc) (ls : Array Slot), f7_fittingSet_L4 N v_count v_days v_ticks w1_parts w1_rate n x2_4 x3_4 = some e2_4 → va_P D vwCl [(h0, .inr (7, [.int v_count, .ref h0_days, .ref h0_ticks])), (h0_days, .inl (cy 2, 10, .inl v_days)), (h0_ticks, .inl (cy 2, 10, .inl v_ticks)), (g1, .inr (0, [.int w1_parts, og1_1, og1_2, og1_3, og1_4, og1_5, og1_6, .ref g1_rate, og1_8, og1_9, og1_10, og1_11, og1_12])), (g1_rate, .inl (cy 2, 7, .inl w1_rate))] H → va_D A [(h0, .inr (7, [.int v_count, .ref h0_days, .ref h0_ticks])), (h0_days, .inl (cy 2, 10, .inl v_days)), (h0_ticks, .inl (cy 2, 10, .inl v_ticks)), (g1, .inr (0, [.int w1_parts, og1_1, og1_2, og1_3, og1_4, og1_5, og1_6, .ref g1_rate, og1_8, og1_9, og1_10, og1_11, og1_12])), (g1_rate, .inl (cy 2, 7, .inl w1_rate))] → va_S A s.heap H locs → lv_has ls 4 [(0, .ref h0), (1, .ref g1), (2, .int x2_4), (3, .int x3_4)] → (∀ (H : Heap) (locs : List Loc) (ls : Array Slot), va_P D vwCl [(h0, .inr (7, [.int v_count, .ref h0_days, .ref h0_ticks])), (h0_days, .inl (cy 2, 10, .inl v_days)), (h0_ticks, .inl (cy 2, 10, .inl v_ticks)), (g1, .inr (0, [.int w1_parts, og1_1, og1_2, og1_3, og1_4, og1_5, og1_6, .ref g1_rate, og1_8, og1_9, og1_10, og1_11, og1_12])), (g1_rate, .inl (cy 2, 7, .inl w1_rate))] H → va_D A [(h0, .inr (7, [.int v_count, .ref h0_days, .ref h0_ticks])), (h0_days, .inl (cy 2, 10, .inl v_days)), (h0_ticks, .inl (cy 2, 10, .inl v_ticks)), (g1, .inr (0, [.int w1_parts, og1_1, og1_2, og1_3, og1_4, og1_5, og1_6, .ref g1_rate, og1_8, og1_9, og1_10, og1_11, og1_12])), (g1_rate, .inl (cy 2, 7, .inl w1_rate))] → va_S A s.heap H locs → lv_has ls 4 [(2, .int e2_4)] → W p l e r7_fittingSet s m args below meth c H locs 0 0 Q (F0 m 42 ls [])) → W p l e r7_fittingSet s m args below meth c H locs 0 0 Q (F0 m 4 ls []) := by
    intro n
    induction n with
    | zero =>
      intro x2_4 x3_4 e2_4 H locs ls hM
      exact absurd hM (by simp [f7_fittingSet_L4])
    | succ n ih =>
      intro x2_4 x3_4 e2_4 H locs ls hM hP hD hS hl K
      rw [f7_fittingSet_L4] at hM
      refine lv_iload_n hx hb dX7_fittingSet_4 rfl (lv_at hl 3 rfl) ?_
      refine lv_bipush (v := 7) hx hb dX7_fittingSet_5 (by decide) ?_
      refine lv_icmp_ge (tgt := 42) hx hb dX7_fittingSet_7 (by decide) (fun c7 => ?_) (fun c7 => ?_)
      · have hM := g_pos c7 hM
        obtain rfl := si1 hM
        exact K _ _ _ hP hD hS (lv_sub hl [2] rfl)
      · have hM := g_neg c7 hM
        refine lv_aload_n hx hb dX7_fittingSet_10 rfl (lv_at hl 1 rfl) ?_
        refine lv_iload_n hx hb dX7_fittingSet_11 rfl (lv_at hl 3 rfl) ?_
        obtain ⟨r12, hc12, hM⟩ := ob1_some hM
        refine cl_vi (As := [.int x3_4]) (rest := []) (ci := 0) (q0 := 3) (wr := [(h0, .inr (7, [.int v_count, .ref h0_days, .ref h0_ticks])), (h0_days, .inl (cy 2, 10, .inl v_days)), (h0_ticks, .inl (cy 2, 10, .inl v_ticks)), (g1_rate, .inl (cy 2, 7, .inl w1_rate))]) (ws2 := [(h0, .inr (7, [.int v_count, .ref h0_days, .ref h0_ticks])), (h0_days, .inl (cy 2, 10, .inl v_days)), (h0_ticks, .inl (cy 2, 10, .inl v_ticks)), (g1, .inr (0, [.int w1_parts, og1_1, og1_2, og1_3, og1_4, og1_5, og1_6, .ref g1_rate, og1_8, og1_9, og1_10, og1_11, og1_12])), (g1_rate, .inl (cy 2, 7, .inl w1_rate))]) (isC := [3]) (isR := [0, 1, 2, 4]) (pm := [0, 1, 2, 4, 3]) hx hb hml hown hts (c0_hasPart l D cy N g1 og1_1 og1_2 og1_3 og1_4 og1_5 og1_6 (.ref g1_rate) og1_8 og1_9 og1_10 og1_11 og1_12 x3_4 w1_parts r12 hc12) (cwV 1 hts gX7_fittingSet_X0_hasPart rfl rfl rfl (by decide +kernel) ⟨Nat.le_of_ble_eq_true rfl, Nat.le_of_ble_eq_true rfl⟩) hK hP hD hS hA rfl rfl rfl rfl rfl (by decide) rfl rfl rfl hl.1 (Nat.le_of_ble_eq_true rfl) dX7_fittingSet_12 ⟨Nat.zero_le _, Nat.zero_le _⟩ rfl rfl (fun H locs hP hD hS => ?_)
        refine lv_if_eq (tgt := 36) hx hb dX7_fittingSet_15 (by decide) (fun c15 => ?_) (fun c15 => ?_)
        · have hM := g_pos c15 hM
          refine lv_iinc (v := x3_4 + (1 : Int32)) (lv' := [(3, .int (x3_4 + (1 : Int32))), (0, .ref h0), (1, .ref g1), (2, .int x2_4)]) hx hb dX7_fittingSet_36 hl (k := 3) rfl rfl (by decide) rfl (fun ls hl => ?_)
          refine lv_goto (tgt := 4) hx hb dX7_fittingSet_39 (by decide) ?_
          exact ih x2_4 (x3_4 + (1 : Int32)) e2_4 _ _ _ hM hP hD hS (lv_sub hl [1, 2, 3, 0] rfl) K
        · have hM := g_neg c15 hM
          refine lv_aload_n hx hb dX7_fittingSet_18 rfl (lv_at hl 0 rfl) ?_
          refine lv_aload_n hx hb dX7_fittingSet_19 rfl (lv_at hl 1 rfl) ?_
          refine lv_iload_n hx hb dX7_fittingSet_20 rfl (lv_at hl 3 rfl) ?_
          obtain ⟨r21, hc21, hM⟩ := ob1_some hM
          refine cl_vi (As := [.int x3_4]) (rest := [.ref h0]) (ci := 0) (q0 := 3) (wr := [(h0, .inr (7, [.int v_count, .ref h0_days, .ref h0_ticks])), (h0_days, .inl (cy 2, 10, .inl v_days)), (h0_ticks, .inl (cy 2, 10, .inl v_ticks))]) (ws2 := [(h0, .inr (7, [.int v_count, .ref h0_days, .ref h0_ticks])), (h0_days, .inl (cy 2, 10, .inl v_days)), (h0_ticks, .inl (cy 2, 10, .inl v_ticks)), (g1, .inr (0, [.int w1_parts, og1_1, og1_2, og1_3, og1_4, og1_5, og1_6, .ref g1_rate, og1_8, og1_9, og1_10, og1_11, og1_12])), (g1_rate, .inl (cy 2, 7, .inl w1_rate))]) (isC := [3, 4]) (isR := [0, 1, 2]) (pm := [0, 1, 2, 3, 4]) hx hb hml hown hts (c0_rateOf l D cy N g1 g1_rate og1_1 og1_2 og1_3 og1_4 og1_5 og1_6 og1_8 og1_9 og1_10 og1_11 og1_12 x3_4 w1_parts w1_rate r21 hc21) (cwV 1 hts gX7_fittingSet_X0_rateOf rfl rfl rfl (by decide +kernel) ⟨Nat.le_of_ble_eq_true rfl, Nat.le_of_ble_eq_true rfl⟩) hK hP hD hS hA rfl rfl rfl rfl rfl (by decide) rfl rfl rfl hl.1 (Nat.le_of_ble_eq_true rfl) dX7_fittingSet_21 ⟨Nat.zero_le _, Nat.zero_le _⟩ rfl rfl (fun H locs hP hD hS => ?_)
          obtain ⟨r24, hc24, hM⟩ := ob1_some hM
          refine cl_vi (As := [.int r21]) (rest := []) (ci := 7) (q0 := 0) (wr := [(g1, .inr (0, [.int w1_parts, og1_1, og1_2, og1_3, og1_4, og1_5, og1_6, .ref g1_rate, og1_8, og1_9, og1_10, og1_11, og1_12])), (g1_rate, .inl (cy 2, 7, .inl w1_rate))]) (ws2 := [(h0, .inr (7, [.int v_count, .ref h0_days, .ref h0_ticks])), (h0_days, .inl (cy 2, 10, .inl v_days)), (h0_ticks, .inl (cy 2, 10, .inl v_ticks)), (g1, .inr (0, [.int w1_parts, og1_1, og1_2, og1_3, og1_4, og1_5, og1_6, .ref g1_rate, og1_8, og1_9, og1_10, og1_11, og1_12])), (g1_rate, .inl (cy 2, 7, .inl w1_rate))]) (isC := [0, 1, 2]) (isR := [3, 4]) (pm := [2, 3, 4, 0, 1]) hx hb hml hown hts (c7_fitAll l D cy N h0 h0_days h0_ticks r21 v_count v_days v_ticks r24 hc24) (cwV 1 hts gX7_fittingSet_X7_fitAll rfl rfl rfl (by decide +kernel) ⟨Nat.le_of_ble_eq_true rfl, Nat.le_of_ble_eq_true rfl⟩) hK hP hD hS hA rfl rfl rfl rfl rfl (by decide) rfl rfl rfl hl.1 (Nat.le_of_ble_eq_true rfl) dX7_fittingSet_24 ⟨Nat.zero_le _, Nat.zero_le _⟩ rfl rfl (fun H locs hP hD hS => ?_)
          refine lv_if_eq (tgt := 36) hx hb dX7_fittingSet_27 (by decide) (fun c27 => ?_) (fun c27 => ?_)
          · have hM := g_pos c27 hM
            refine lv_iinc (v := x3_4 + (1 : Int32)) (lv' := [(3, .int (x3_4 + (1 : Int32))), (0, .ref h0), (1, .ref g1), (2, .int x2_4)]) hx hb dX7_fittingSet_36 hl (k := 3) rfl rfl (by decide) rfl (fun ls hl => ?_)
            refine lv_goto (tgt := 4) hx hb dX7_fittingSet_39 (by decide) ?_
            exact ih x2_4 (x3_4 + (1 : Int32)) e2_4 _ _ _ hM hP hD hS (lv_sub hl [1, 2, 3, 0] rfl) K
          · have hM := g_neg c27 hM
            refine lv_iload_n hx hb dX7_fittingSet_30 rfl (lv_at hl 2 rfl) ?_
            refine lv_iconst (v := 1) hx hb dX7_fittingSet_31 (by decide) ?_
            refine lv_iload_n hx hb dX7_fittingSet_32 rfl (lv_at hl 3 rfl) ?_
            refine lv_ishl hx hb dX7_fittingSet_33 ?_
            refine lv_ior hx hb dX7_fittingSet_34 ?_
            refine lv_istore_n (lv' := [(2, .int (x2_4 ||| ((1 : Int32) <<< (x3_4 &&& 31)))), (0, .ref h0), (1, .ref g1), (3, .int x3_4)]) hx hb dX7_fittingSet_35 rfl hl (by decide) rfl (fun ls hl => ?_)
            refine lv_iinc (v := x3_4 + (1 : Int32)) (lv' := [(3, .int (x3_4 + (1 : Int32))), (2, .int (x2_4 ||| ((1 : Int32) <<< (x3_4 &&& 31)))), (0, .ref h0), (1, .ref g1)]) hx hb dX7_fittingSet_36 hl (k := 3) rfl rfl (by decide) rfl (fun ls hl => ?_)
            refine lv_goto (tgt := 4) hx hb dX7_fittingSet_39 (by decide) ?_
            exact ih (x2_4 ||| ((1 : Int32) <<< (x3_4 &&& 31))) (x3_4 + (1 : Int32)) e2_4 _ _ _ hM hP hD hS (lv_sub hl [2, 3, 1, 0] rfl) K
  obtain ⟨e2_4, hL4, hM⟩ := ob1_some hM
  refine L4 N (0 : Int32) (0 : Int32) e2_4 _ _ _ hL4 hP hD hS (lv_sub hl [2, 3, 1, 0] rfl) ?_
  intro H locs ls hP hD hS hl
  refine lv_iload_n hx hb dX7_fittingSet_42 rfl (lv_at hl 0 rfl) ?_
  obtain rfl := si1 hM
  exact hret _ _ _ _ _ dX7_fittingSet_43 rfl rfl hP hD hS
