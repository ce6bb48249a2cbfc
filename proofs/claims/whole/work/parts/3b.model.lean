-- ===== X9_step step ()V =====
abbrev r9_step : Room := { frames := 1, cells := 0, slots := 0, locals := 22 }
def f9_step_L0 (N : Nat) (v_typed : Int32) (v_text : Nat → Int32) : Nat → Int32 → Option Int32
  | 0, _ => none
  | n + 1, v_at_0 => ob1 (f9_here N v_typed v_at_0 v_text) fun r1 => if r1 = (32 : Int32) then ((f9_step_L0 N v_typed v_text n) (v_at_0 + (1 : Int32))) else (some v_at_0)
def f9_step_L189 (N : Nat) (v_typed : Int32) (v_text : Nat → Int32) (v_at_e0 : Int32) : Nat → Int32 → Int32 → Option (Int32 × Int32)
  | 0, _, _ => none
  | n + 1, v_at_189, v_value_189 => ob1 (f9_here N v_typed v_at_189 v_text) fun r190 => ob1 (f9_in N r190 (48 : Int32) (57 : Int32)) fun r197 => if r197 = (0 : Int32) then (some (v_at_189, v_value_189)) else (if (3 : Int32) ≤ (v_at_189 - v_at_e0) then ((f9_step_L189 N v_typed v_text v_at_e0 n) (v_at_189 + (1 : Int32)) (9999 : Int32)) else (ob1 (f9_here N v_typed v_at_189 v_text) fun r225 => (f9_step_L189 N v_typed v_text v_at_e0 n) (v_at_189 + (1 : Int32)) ((((10 : Int32) * v_value_189) + r225) - (48 : Int32))))
def f9_step_J116 (N : Nat) (v_typed : Int32) (v_text : Nat → Int32) (v_at_e0 : Int32) (x3_68 : Int32) (v_at_68 : Int32) (rec68 : Int32 → Int32 → Int32 → Option (Int32 × Int32 × Int32)) (s0_116 : Int32) : Option (Int32 × Int32 × Int32) :=
  if (6 : Int32) ≤ (v_at_68 - v_at_e0) then (if (8 : Int32) ≤ (v_at_68 - v_at_e0) then (rec68 s0_116 (999999 : Int32) (v_at_68 + (1 : Int32))) else (ob1 (f9_here N v_typed v_at_68 v_text) fun r140 => rec68 s0_116 ((((27 : Int32) * x3_68) + r140) - (96 : Int32)) (v_at_68 + (1 : Int32)))) else (rec68 s0_116 x3_68 (v_at_68 + (1 : Int32)))
def f9_step_L68 (N : Nat) (v_typed : Int32) (v_text : Nat → Int32) (v_at_e0 : Int32) : Nat → Int32 → Int32 → Int32 → Option (Int32 × Int32 × Int32)
  | 0, _, _, _ => none
  | n + 1, x2_68, x3_68, v_at_68 => ob1 (f9_here N v_typed v_at_68 v_text) fun r69 => ob1 (f9_in N r69 (97 : Int32) (122 : Int32)) fun r76 => if r76 = (0 : Int32) then (some (x2_68, x3_68, v_at_68)) else (if (6 : Int32) ≤ (v_at_68 - v_at_e0) then (f9_step_J116 N v_typed v_text v_at_e0 x3_68 v_at_68 (f9_step_L68 N v_typed v_text v_at_e0 n) x2_68) else (ob1 (f9_here N v_typed v_at_68 v_text) fun r105 => f9_step_J116 N v_typed v_text v_at_e0 x3_68 v_at_68 (f9_step_L68 N v_typed v_text v_at_e0 n) ((((27 : Int32) * x2_68) + r105) - (96 : Int32))))
def f9_step (N : Nat) (v_typed : Int32) (v_at : Int32) (v_start : Int32) (v_sort : Int32) (v_value : Int32) (v_text : Nat → Int32) : Option (Int32 × Int32 × Int32 × Int32) :=
  ob1 (f9_step_L0 N v_typed v_text N v_at) fun v_at_e0 => ob1 (f9_here N v_typed v_at_e0 v_text) fun r36 => if (0 : Int32) ≤ r36 then (ob1 (f9_in N r36 (97 : Int32) (122 : Int32)) fun r58 => if r58 = (0 : Int32) then (ob1 (f9_in N r36 (48 : Int32) (57 : Int32)) fun r183 => if r183 = (0 : Int32) then (if r36 = (59 : Int32) then (some ((v_at_e0 + (1 : Int32)), v_at_e0, (7 : Int32), (0 : Int32))) else (some ((v_at_e0 + (1 : Int32)), v_at_e0, (9 : Int32), (0 : Int32)))) else (ob2 (f9_step_L189 N v_typed v_text v_at_e0 N v_at_e0 (0 : Int32)) fun v_at_e189 v_value_e189 => some (v_at_e189, v_at_e0, (6 : Int32), v_value_e189))) else (ob3 (f9_step_L68 N v_typed v_text v_at_e0 N (0 : Int32) (0 : Int32) v_at_e0) fun e2_68 e3_68 v_at_e68 => ob1 (f9_meaning N e2_68 e3_68) fun r169 => some (v_at_e68, v_at_e0, r169, (0 : Int32)))) else (some (v_at_e0, v_at_e0, (8 : Int32), (0 : Int32)))
set_option maxHeartbeats 4000000 in
set_option maxRecDepth 100000 in
theorem c9_step (l : Launch) (D : va_G) (cy : Nat → ClassId) (N : Nat) (h0 h0_text : Nat) (oh0_0 oh0_3 oh0_4 oh0_5 oh0_6 oh0_7 oh0_8 oh0_9 oh0_10 oh0_11 oh0_12 oh0_13 oh0_14 oh0_19 oh0_20 oh0_21 oh0_22 oh0_23 oh0_24 oh0_25 oh0_26 oh0_27 oh0_28 oh0_29 oh0_30 oh0_31 oh0_32 oh0_33 oh0_34 oh0_35 oh0_36 oh0_37 : Value) (v_typed : Int32) (v_at : Int32) (v_start : Int32) (v_sort : Int32) (v_value : Int32) (v_text : Nat → Int32) (nv_at : Int32) (nv_start : Int32) (nv_sort : Int32) (nv_value : Int32) (hM : f9_step N v_typed v_at v_start v_sort v_value v_text = some (nv_at, nv_start, nv_sort, nv_value)) (sz : Nat) : CTv l yX9_step wsX9_step r9_step [.ref h0] D cy sz [(h0, .inr (9, [oh0_0, .ref h0_text, .int v_typed, oh0_3, oh0_4, oh0_5, oh0_6, oh0_7, oh0_8, oh0_9, oh0_10, oh0_11, oh0_12, oh0_13, oh0_14, .int v_at, .int v_start, .int v_sort, .int v_value, oh0_19, oh0_20, oh0_21, oh0_22, oh0_23, oh0_24, oh0_25, oh0_26, oh0_27, oh0_28, oh0_29, oh0_30, oh0_31, oh0_32, oh0_33, oh0_34, oh0_35, oh0_36, oh0_37])), (h0_text, .inl (cy 0, 500, .inl v_text))] [(h0, .inr (9, [oh0_0, .ref h0_text, .int v_typed, oh0_3, oh0_4, oh0_5, oh0_6, oh0_7, oh0_8, oh0_9, oh0_10, oh0_11, oh0_12, oh0_13, oh0_14, .int nv_at, .int nv_start, .int nv_sort, .int nv_value, oh0_19, oh0_20, oh0_21, oh0_22, oh0_23, oh0_24, oh0_25, oh0_26, oh0_27, oh0_28, oh0_29, oh0_30, oh0_31, oh0_32, oh0_33, oh0_34, oh0_35, oh0_36, oh0_37])), (h0_text, .inl (cy 0, 500, .inl v_text))] := by
  unfold f9_step at hM
  refine ct_ov (cc := cX9_step) (maxL := 5)  (by decide +kernel) rfl (Nat.le_of_ble_eq_true rfl) (lv0 := [(0, .ref h0)]) rfl ?_
  intro p e s m args below meth c A Q ls hx hb hts hown hml hK hP hD hS hA hret hl
  have hown : s.vm.findClass RX9 = some m.cls := hown
  have k106 := hts (.fieldLink RX9 106 "CaveYearsModel" "at" "I") (List.mem_of_getElem? (i := 1) (by decide +kernel))
  have iX9 := (fun w h => (List.mem_cons_of_mem _ (List.mem_append_right _ h)) : ∀ w ∈ wsX90, w ∈ wsX9_step)
  have k114 := hts (.fieldLink RX9 114 "CaveYearsModel" "start" "I") (List.mem_of_getElem? (i := 2) (by decide +kernel))
  have k117 := hts (.fieldLink RX9 117 "CaveYearsModel" "value" "I") (List.mem_of_getElem? (i := 3) (by decide +kernel))
  have k120 := hts (.fieldLink RX9 120 "CaveYearsModel" "sort" "I") (List.mem_of_getElem? (i := 4) (by decide +kernel))
  have k123 := hts (.constant RX9 123 (999999)) (List.mem_of_getElem? (i := 5) (by decide +kernel))
  have L0 : ∀ (n : Nat) (v_at_0 : Int32) (v_at_e0 : Int32) (H : Heap) (locs : List Loc) (ls : Array Slot), f9_step_L0 N v_typed v_text n v_at_0 = some v_at_e0 → va_P D vwCl [(h0, .inr (9, [oh0_0, .ref h0_text, .int v_typed, oh0_3, oh0_4, oh0_5, oh0_6, oh0_7, oh0_8, oh0_9, oh0_10, oh0_11, oh0_12, oh0_13, oh0_14, .int v_at_0, .int v_start, .int v_sort, .int v_value, oh0_19, oh0_20, oh0_21, oh0_22, oh0_23, oh0_24, oh0_25, oh0_26, oh0_27, oh0_28, oh0_29, oh0_30, oh0_31, oh0_32, oh0_33, oh0_34, oh0_35, oh0_36, oh0_37])), (h0_text, .inl (cy 0, 500, .inl v_text))] H → va_D A [(h0, .inr (9, [oh0_0, .ref h0_text, .int v_typed, oh0_3, oh0_4, oh0_5, oh0_6, oh0_7, oh0_8, oh0_9, oh0_10, oh0_11, oh0_12, oh0_13, oh0_14, .int v_at_0, .int v_start, .int v_sort, .int v_value, oh0_19, oh0_20, oh0_21, oh0_22, oh0_23, oh0_24, oh0_25, oh0_26, oh0_27, oh0_28, oh0_29, oh0_30, oh0_31, oh0_32, oh0_33, oh0_34, oh0_35, oh0_36, oh0_37])), (h0_text, .inl (cy 0, 500, .inl v_text))] → va_S A s.heap H locs → lv_has ls 5 [(0, .ref h0)] → (∀ (H : Heap) (locs : List Loc) (ls : Array Slot), va_P D vwCl [(h0, .inr (9, [oh0_0, .ref h0_text, .int v_typed, oh0_3, oh0_4, oh0_5, oh0_6, oh0_7, oh0_8, oh0_9, oh0_10, oh0_11, oh0_12, oh0_13, oh0_14, .int v_at_e0, .int v_start, .int v_sort, .int v_value, oh0_19, oh0_20, oh0_21, oh0_22, oh0_23, oh0_24, oh0_25, oh0_26, oh0_27, oh0_28, oh0_29, oh0_30, oh0_31, oh0_32, oh0_33, oh0_34, oh0_35, oh0_36, oh0_37])), (h0_text, .inl (cy 0, 500, .inl v_text))] H → va_D A [(h0, .inr (9, [oh0_0, .ref h0_text, .int v_typed, oh0_3, oh0_4, oh0_5, oh0_6, oh0_7, oh0_8, oh0_9, oh0_10, oh0_11, oh0_12, oh0_13, oh0_14, .int v_at_e0, .int v_start, .int v_sort, .int v_value, oh0_19, oh0_20, oh0_21, oh0_22, oh0_23, oh0_24, oh0_25, oh0_26, oh0_27, oh0_28, oh0_29, oh0_30, oh0_31, oh0_32, oh0_33, oh0_34, oh0_35, oh0_36, oh0_37])), (h0_text, .inl (cy 0, 500, .inl v_text))] → va_S A s.heap H locs → lv_has ls 5 [(0, .ref h0)] → W p l e r9_step s m args below meth c H locs 0 0 Q (F0 m 22 ls [])) → W p l e r9_step s m args below meth c H locs 0 0 Q (F0 m 0 ls []) := by
    intro n0
    induction n0 with
    | zero =>
      intro v_at_0 v_at_e0 H locs ls hM
      exact absurd hM (by simp [f9_step_L0])
    | succ n0 ih0 =>
      intro v_at_0 v_at_e0 H locs ls hM hP hD hS hl K
      rw [f9_step_L0] at hM
      refine lv_aload_n hx hb dX9_step_0 rfl (lv_at hl 0 rfl) ?_
      obtain ⟨r1, hc1, hM⟩ := ob1_some hM
      refine cl_vi (As := []) (rest := []) (ci := 9) (q0 := 0) (wr := []) (ws2 := [(h0, .inr (9, [oh0_0, .ref h0_text, .int v_typed, oh0_3, oh0_4, oh0_5, oh0_6, oh0_7, oh0_8, oh0_9, oh0_10, oh0_11, oh0_12, oh0_13, oh0_14, .int v_at_0, .int v_start, .int v_sort, .int v_value, oh0_19, oh0_20, oh0_21, oh0_22, oh0_23, oh0_24, oh0_25, oh0_26, oh0_27, oh0_28, oh0_29, oh0_30, oh0_31, oh0_32, oh0_33, oh0_34, oh0_35, oh0_36, oh0_37])), (h0_text, .inl (cy 0, 500, .inl v_text))]) (isC := [0, 1]) (isR := []) (pm := [0, 1]) hx hb hml hown hts (c9_here l D cy N h0 h0_text oh0_0 oh0_3 oh0_4 oh0_5 oh0_6 oh0_7 oh0_8 oh0_9 oh0_10 oh0_11 oh0_12 oh0_13 oh0_14 (.int v_start) (.int v_sort) (.int v_value) oh0_19 oh0_20 oh0_21 oh0_22 oh0_23 oh0_24 oh0_25 oh0_26 oh0_27 oh0_28 oh0_29 oh0_30 oh0_31 oh0_32 oh0_33 oh0_34 oh0_35 oh0_36 oh0_37 v_typed v_at_0 v_text r1 hc1) (cwV 0 hts gX9_step_X9_here rfl rfl rfl (by decide +kernel) ⟨Nat.le_of_ble_eq_true rfl, Nat.le_of_ble_eq_true rfl⟩) hK hP hD hS hA rfl rfl rfl rfl rfl (by decide) rfl rfl rfl hl.1 (Nat.le_of_ble_eq_true rfl) dX9_step_1 ⟨Nat.zero_le _, Nat.zero_le _⟩ rfl rfl (fun H locs hP hD hS => ?_)
      refine lv_bipush (v := 32) hx hb dX9_step_4 (by decide) ?_
      refine lv_icmp_ne (tgt := 22) hx hb dX9_step_6 (by decide) (fun c6 => ?_) (fun c6 => ?_)
      · have hM := g_neg c6 hM
        obtain rfl := si1 hM
        exact K _ _ _ hP hD hS (lv_sub hl [0] rfl)
      · have hM := g_pos c6 hM
        refine lv_aload_n hx hb dX9_step_9 rfl (lv_at hl 0 rfl) ?_
        refine lv_dup hx hb dX9_step_10 rfl ?_
        refine va_get (D := D) (ci := 9) (v := .int v_at_0) (C := RX9) (T := TX9) (N := 38) hx hb hts iX9 hown hK hP 0 rfl rfl 15 (by decide) k106 (fun _ h9 => h9) rfl dX9_step_11 ?_
        refine lv_iconst (v := 1) hx hb dX9_step_14 (by decide) ?_
        refine lv_iadd hx hb dX9_step_15 ?_
        refine va_put (D := D) (ci := 9) (v := .int (v_at_0 + (1 : Int32))) (ty := .int) (C := RX9) (T := TX9) (N := 38) hx hb hts iX9 tyX9 tyX9_ok nmX9 hown hK hP hD hS 0 rfl rfl 15 (by decide) k106 (fun _ h9 => h9) rfl (by decide +kernel) rfl rfl (Nat.le_of_ble_eq_true rfl) dX9_step_16 (fun H locs hP hD hS => ?_)
        have hP : va_P D vwCl [(h0, .inr (9, [oh0_0, .ref h0_text, .int v_typed, oh0_3, oh0_4, oh0_5, oh0_6, oh0_7, oh0_8, oh0_9, oh0_10, oh0_11, oh0_12, oh0_13, oh0_14, .int (v_at_0 + (1 : Int32)), .int v_start, .int v_sort, .int v_value, oh0_19, oh0_20, oh0_21, oh0_22, oh0_23, oh0_24, oh0_25, oh0_26, oh0_27, oh0_28, oh0_29, oh0_30, oh0_31, oh0_32, oh0_33, oh0_34, oh0_35, oh0_36, oh0_37])), (h0_text, .inl (cy 0, 500, .inl v_text))] H := hP
        have hD : va_D A [(h0, .inr (9, [oh0_0, .ref h0_text, .int v_typed, oh0_3, oh0_4, oh0_5, oh0_6, oh0_7, oh0_8, oh0_9, oh0_10, oh0_11, oh0_12, oh0_13, oh0_14, .int (v_at_0 + (1 : Int32)), .int v_start, .int v_sort, .int v_value, oh0_19, oh0_20, oh0_21, oh0_22, oh0_23, oh0_24, oh0_25, oh0_26, oh0_27, oh0_28, oh0_29, oh0_30, oh0_31, oh0_32, oh0_33, oh0_34, oh0_35, oh0_36, oh0_37])), (h0_text, .inl (cy 0, 500, .inl v_text))] := hD
        refine lv_goto (tgt := 0) hx hb dX9_step_19 (by decide) ?_
        exact ih0 (v_at_0 + (1 : Int32)) v_at_e0 _ _ _ hM hP hD hS (lv_sub hl [0] rfl) K
  obtain ⟨v_at_e0, hL0, hM⟩ := ob1_some hM
  refine L0 N v_at v_at_e0 _ _ _ hL0 hP hD hS (lv_sub hl [0] rfl) ?_
  intro H locs ls hP hD hS hl
  refine lv_aload_n hx hb dX9_step_22 rfl (lv_at hl 0 rfl) ?_
  refine lv_aload_n hx hb dX9_step_23 rfl (lv_at hl 0 rfl) ?_
  refine va_get (D := D) (ci := 9) (v := .int v_at_e0) (C := RX9) (T := TX9) (N := 38) hx hb hts iX9 hown hK hP 0 rfl rfl 15 (by decide) k106 (fun _ h9 => h9) rfl dX9_step_24 ?_
  refine va_put (D := D) (ci := 9) (v := .int v_at_e0) (ty := .int) (C := RX9) (T := TX9) (N := 38) hx hb hts iX9 tyX9 tyX9_ok nmX9 hown hK hP hD hS 0 rfl rfl 16 (by decide) k114 (fun _ h9 => h9) rfl (by decide +kernel) rfl rfl (Nat.le_of_ble_eq_true rfl) dX9_step_27 (fun H locs hP hD hS => ?_)
  have hP : va_P D vwCl [(h0, .inr (9, [oh0_0, .ref h0_text, .int v_typed, oh0_3, oh0_4, oh0_5, oh0_6, oh0_7, oh0_8, oh0_9, oh0_10, oh0_11, oh0_12, oh0_13, oh0_14, .int v_at_e0, .int v_at_e0, .int v_sort, .int v_value, oh0_19, oh0_20, oh0_21, oh0_22, oh0_23, oh0_24, oh0_25, oh0_26, oh0_27, oh0_28, oh0_29, oh0_30, oh0_31, oh0_32, oh0_33, oh0_34, oh0_35, oh0_36, oh0_37])), (h0_text, .inl (cy 0, 500, .inl v_text))] H := hP
  have hD : va_D A [(h0, .inr (9, [oh0_0, .ref h0_text, .int v_typed, oh0_3, oh0_4, oh0_5, oh0_6, oh0_7, oh0_8, oh0_9, oh0_10, oh0_11, oh0_12, oh0_13, oh0_14, .int v_at_e0, .int v_at_e0, .int v_sort, .int v_value, oh0_19, oh0_20, oh0_21, oh0_22, oh0_23, oh0_24, oh0_25, oh0_26, oh0_27, oh0_28, oh0_29, oh0_30, oh0_31, oh0_32, oh0_33, oh0_34, oh0_35, oh0_36, oh0_37])), (h0_text, .inl (cy 0, 500, .inl v_text))] := hD
  refine lv_aload_n hx hb dX9_step_30 rfl (lv_at hl 0 rfl) ?_
  refine lv_iconst (v := 0) hx hb dX9_step_31 (by decide) ?_
  refine va_put (D := D) (ci := 9) (v := .int (0 : Int32)) (ty := .int) (C := RX9) (T := TX9) (N := 38) hx hb hts iX9 tyX9 tyX9_ok nmX9 hown hK hP hD hS 0 rfl rfl 18 (by decide) k117 (fun _ h9 => h9) rfl (by decide +kernel) rfl rfl (Nat.le_of_ble_eq_true rfl) dX9_step_32 (fun H locs hP hD hS => ?_)
  have hP : va_P D vwCl [(h0, .inr (9, [oh0_0, .ref h0_text, .int v_typed, oh0_3, oh0_4, oh0_5, oh0_6, oh0_7, oh0_8, oh0_9, oh0_10, oh0_11, oh0_12, oh0_13, oh0_14, .int v_at_e0, .int v_at_e0, .int v_sort, .int (0 : Int32), oh0_19, oh0_20, oh0_21, oh0_22, oh0_23, oh0_24, oh0_25, oh0_26, oh0_27, oh0_28, oh0_29, oh0_30, oh0_31, oh0_32, oh0_33, oh0_34, oh0_35, oh0_36, oh0_37])), (h0_text, .inl (cy 0, 500, .inl v_text))] H := hP
  have hD : va_D A [(h0, .inr (9, [oh0_0, .ref h0_text, .int v_typed, oh0_3, oh0_4, oh0_5, oh0_6, oh0_7, oh0_8, oh0_9, oh0_10, oh0_11, oh0_12, oh0_13, oh0_14, .int v_at_e0, .int v_at_e0, .int v_sort, .int (0 : Int32), oh0_19, oh0_20, oh0_21, oh0_22, oh0_23, oh0_24, oh0_25, oh0_26, oh0_27, oh0_28, oh0_29, oh0_30, oh0_31, oh0_32, oh0_33, oh0_34, oh0_35, oh0_36, oh0_37])), (h0_text, .inl (cy 0, 500, .inl v_text))] := hD
  refine lv_aload_n hx hb dX9_step_35 rfl (lv_at hl 0 rfl) ?_
  obtain ⟨r36, hc36, hM⟩ := ob1_some hM
  refine cl_vi (As := []) (rest := []) (ci := 9) (q0 := 0) (wr := []) (ws2 := [(h0, .inr (9, [oh0_0, .ref h0_text, .int v_typed, oh0_3, oh0_4, oh0_5, oh0_6, oh0_7, oh0_8, oh0_9, oh0_10, oh0_11, oh0_12, oh0_13, oh0_14, .int v_at_e0, .int v_at_e0, .int v_sort, .int (0 : Int32), oh0_19, oh0_20, oh0_21, oh0_22, oh0_23, oh0_24, oh0_25, oh0_26, oh0_27, oh0_28, oh0_29, oh0_30, oh0_31, oh0_32, oh0_33, oh0_34, oh0_35, oh0_36, oh0_37])), (h0_text, .inl (cy 0, 500, .inl v_text))]) (isC := [0, 1]) (isR := []) (pm := [0, 1]) hx hb hml hown hts (c9_here l D cy N h0 h0_text oh0_0 oh0_3 oh0_4 oh0_5 oh0_6 oh0_7 oh0_8 oh0_9 oh0_10 oh0_11 oh0_12 oh0_13 oh0_14 (.int v_at_e0) (.int v_sort) (.int (0 : Int32)) oh0_19 oh0_20 oh0_21 oh0_22 oh0_23 oh0_24 oh0_25 oh0_26 oh0_27 oh0_28 oh0_29 oh0_30 oh0_31 oh0_32 oh0_33 oh0_34 oh0_35 oh0_36 oh0_37 v_typed v_at_e0 v_text r36 hc36) (cwV 0 hts gX9_step_X9_here rfl rfl rfl (by decide +kernel) ⟨Nat.le_of_ble_eq_true rfl, Nat.le_of_ble_eq_true rfl⟩) hK hP hD hS hA rfl rfl rfl rfl rfl (by decide) rfl rfl rfl hl.1 (Nat.le_of_ble_eq_true rfl) dX9_step_36 ⟨Nat.zero_le _, Nat.zero_le _⟩ rfl rfl (fun H locs hP hD hS => ?_)
  refine lv_istore_n (lv' := [(1, .int r36), (0, .ref h0)]) hx hb dX9_step_39 rfl hl (by decide) rfl (fun ls hl => ?_)
  refine lv_iload_n hx hb dX9_step_40 rfl (lv_at hl 0 rfl) ?_
  refine lv_if_ge (tgt := 53) hx hb dX9_step_41 (by decide) (fun c41 => ?_) (fun c41 => ?_)
  · have hM := g_pos c41 hM
    refine lv_iload_n hx hb dX9_step_53 rfl (lv_at hl 0 rfl) ?_
    refine lv_bipush (v := 97) hx hb dX9_step_54 (by decide) ?_
    refine lv_bipush (v := 122) hx hb dX9_step_56 (by decide) ?_
    obtain ⟨r58, hc58, hM⟩ := ob1_some hM
    refine cl_si (As := [.int r36, .int (97 : Int32), .int (122 : Int32)]) (rest := []) (wr := [(h0, .inr (9, [oh0_0, .ref h0_text, .int v_typed, oh0_3, oh0_4, oh0_5, oh0_6, oh0_7, oh0_8, oh0_9, oh0_10, oh0_11, oh0_12, oh0_13, oh0_14, .int v_at_e0, .int v_at_e0, .int v_sort, .int (0 : Int32), oh0_19, oh0_20, oh0_21, oh0_22, oh0_23, oh0_24, oh0_25, oh0_26, oh0_27, oh0_28, oh0_29, oh0_30, oh0_31, oh0_32, oh0_33, oh0_34, oh0_35, oh0_36, oh0_37])), (h0_text, .inl (cy 0, 500, .inl v_text))]) (ws2 := [(h0, .inr (9, [oh0_0, .ref h0_text, .int v_typed, oh0_3, oh0_4, oh0_5, oh0_6, oh0_7, oh0_8, oh0_9, oh0_10, oh0_11, oh0_12, oh0_13, oh0_14, .int v_at_e0, .int v_at_e0, .int v_sort, .int (0 : Int32), oh0_19, oh0_20, oh0_21, oh0_22, oh0_23, oh0_24, oh0_25, oh0_26, oh0_27, oh0_28, oh0_29, oh0_30, oh0_31, oh0_32, oh0_33, oh0_34, oh0_35, oh0_36, oh0_37])), (h0_text, .inl (cy 0, 500, .inl v_text))]) (isC := []) (isR := [0, 1]) (pm := [0, 1]) hx hb hml hown hts (c9_in l D cy N r36 (97 : Int32) (122 : Int32) r58 hc58) (va_cwS 3 hts gX9_step_X9_in rfl rfl rfl (by decide +kernel) ⟨Nat.le_of_ble_eq_true rfl, Nat.le_of_ble_eq_true rfl⟩) hK hP hD hS hA rfl rfl rfl (by decide) rfl rfl rfl hl.1 (Nat.le_of_ble_eq_true rfl) dX9_step_58 ⟨Nat.zero_le _, Nat.zero_le _⟩ rfl rfl (fun H locs hP hD hS => ?_)
    refine lv_if_eq (tgt := 178) hx hb dX9_step_61 (by decide) (fun c61 => ?_) (fun c61 => ?_)
    · have hM := g_pos c61 hM
      refine lv_iload_n hx hb dX9_step_178 rfl (lv_at hl 0 rfl) ?_
      refine lv_bipush (v := 48) hx hb dX9_step_179 (by decide) ?_
      refine lv_bipush (v := 57) hx hb dX9_step_181 (by decide) ?_
      obtain ⟨r183, hc183, hM⟩ := ob1_some hM
      refine cl_si (As := [.int r36, .int (48 : Int32), .int (57 : Int32)]) (rest := []) (wr := [(h0, .inr (9, [oh0_0, .ref h0_text, .int v_typed, oh0_3, oh0_4, oh0_5, oh0_6, oh0_7, oh0_8, oh0_9, oh0_10, oh0_11, oh0_12, oh0_13, oh0_14, .int v_at_e0, .int v_at_e0, .int v_sort, .int (0 : Int32), oh0_19, oh0_20, oh0_21, oh0_22, oh0_23, oh0_24, oh0_25, oh0_26, oh0_27, oh0_28, oh0_29, oh0_30, oh0_31, oh0_32, oh0_33, oh0_34, oh0_35, oh0_36, oh0_37])), (h0_text, .inl (cy 0, 500, .inl v_text))]) (ws2 := [(h0, .inr (9, [oh0_0, .ref h0_text, .int v_typed, oh0_3, oh0_4, oh0_5, oh0_6, oh0_7, oh0_8, oh0_9, oh0_10, oh0_11, oh0_12, oh0_13, oh0_14, .int v_at_e0, .int v_at_e0, .int v_sort, .int (0 : Int32), oh0_19, oh0_20, oh0_21, oh0_22, oh0_23, oh0_24, oh0_25, oh0_26, oh0_27, oh0_28, oh0_29, oh0_30, oh0_31, oh0_32, oh0_33, oh0_34, oh0_35, oh0_36, oh0_37])), (h0_text, .inl (cy 0, 500, .inl v_text))]) (isC := []) (isR := [0, 1]) (pm := [0, 1]) hx hb hml hown hts (c9_in l D cy N r36 (48 : Int32) (57 : Int32) r183 hc183) (va_cwS 3 hts gX9_step_X9_in rfl rfl rfl (by decide +kernel) ⟨Nat.le_of_ble_eq_true rfl, Nat.le_of_ble_eq_true rfl⟩) hK hP hD hS hA rfl rfl rfl (by decide) rfl rfl rfl hl.1 (Nat.le_of_ble_eq_true rfl) dX9_step_183 ⟨Nat.zero_le _, Nat.zero_le _⟩ rfl rfl (fun H locs hP hD hS => ?_)
      refine lv_if_eq (tgt := 263) hx hb dX9_step_186 (by decide) (fun c186 => ?_) (fun c186 => ?_)
      · have hM := g_pos c186 hM
        refine lv_aload_n hx hb dX9_step_263 rfl (lv_at hl 1 rfl) ?_
        refine lv_dup hx hb dX9_step_264 rfl ?_
        refine va_get (D := D) (ci := 9) (v := .int v_at_e0) (C := RX9) (T := TX9) (N := 38) hx hb hts iX9 hown hK hP 0 rfl rfl 15 (by decide) k106 (fun _ h9 => h9) rfl dX9_step_265 ?_
        refine lv_iconst (v := 1) hx hb dX9_step_268 (by decide) ?_
        refine lv_iadd hx hb dX9_step_269 ?_
        refine va_put (D := D) (ci := 9) (v := .int (v_at_e0 + (1 : Int32))) (ty := .int) (C := RX9) (T := TX9) (N := 38) hx hb hts iX9 tyX9 tyX9_ok nmX9 hown hK hP hD hS 0 rfl rfl 15 (by decide) k106 (fun _ h9 => h9) rfl (by decide +kernel) rfl rfl (Nat.le_of_ble_eq_true rfl) dX9_step_270 (fun H locs hP hD hS => ?_)
        have hP : va_P D vwCl [(h0, .inr (9, [oh0_0, .ref h0_text, .int v_typed, oh0_3, oh0_4, oh0_5, oh0_6, oh0_7, oh0_8, oh0_9, oh0_10, oh0_11, oh0_12, oh0_13, oh0_14, .int (v_at_e0 + (1 : Int32)), .int v_at_e0, .int v_sort, .int (0 : Int32), oh0_19, oh0_20, oh0_21, oh0_22, oh0_23, oh0_24, oh0_25, oh0_26, oh0_27, oh0_28, oh0_29, oh0_30, oh0_31, oh0_32, oh0_33, oh0_34, oh0_35, oh0_36, oh0_37])), (h0_text, .inl (cy 0, 500, .inl v_text))] H := hP
        have hD : va_D A [(h0, .inr (9, [oh0_0, .ref h0_text, .int v_typed, oh0_3, oh0_4, oh0_5, oh0_6, oh0_7, oh0_8, oh0_9, oh0_10, oh0_11, oh0_12, oh0_13, oh0_14, .int (v_at_e0 + (1 : Int32)), .int v_at_e0, .int v_sort, .int (0 : Int32), oh0_19, oh0_20, oh0_21, oh0_22, oh0_23, oh0_24, oh0_25, oh0_26, oh0_27, oh0_28, oh0_29, oh0_30, oh0_31, oh0_32, oh0_33, oh0_34, oh0_35, oh0_36, oh0_37])), (h0_text, .inl (cy 0, 500, .inl v_text))] := hD
        refine lv_aload_n hx hb dX9_step_273 rfl (lv_at hl 1 rfl) ?_
        refine lv_iload_n hx hb dX9_step_274 rfl (lv_at hl 0 rfl) ?_
        refine lv_bipush (v := 59) hx hb dX9_step_275 (by decide) ?_
        refine lv_icmp_ne (tgt := 285) hx hb dX9_step_277 (by decide) (fun c277 => ?_) (fun c277 => ?_)
        · have hM := g_neg c277 hM
          refine lv_bipush (v := 9) hx hb dX9_step_285 (by decide) ?_
          refine va_put (D := D) (ci := 9) (v := .int (9 : Int32)) (ty := .int) (C := RX9) (T := TX9) (N := 38) hx hb hts iX9 tyX9 tyX9_ok nmX9 hown hK hP hD hS 0 rfl rfl 17 (by decide) k120 (fun _ h9 => h9) rfl (by decide +kernel) rfl rfl (Nat.le_of_ble_eq_true rfl) dX9_step_287 (fun H locs hP hD hS => ?_)
          have hP : va_P D vwCl [(h0, .inr (9, [oh0_0, .ref h0_text, .int v_typed, oh0_3, oh0_4, oh0_5, oh0_6, oh0_7, oh0_8, oh0_9, oh0_10, oh0_11, oh0_12, oh0_13, oh0_14, .int (v_at_e0 + (1 : Int32)), .int v_at_e0, .int (9 : Int32), .int (0 : Int32), oh0_19, oh0_20, oh0_21, oh0_22, oh0_23, oh0_24, oh0_25, oh0_26, oh0_27, oh0_28, oh0_29, oh0_30, oh0_31, oh0_32, oh0_33, oh0_34, oh0_35, oh0_36, oh0_37])), (h0_text, .inl (cy 0, 500, .inl v_text))] H := hP
          have hD : va_D A [(h0, .inr (9, [oh0_0, .ref h0_text, .int v_typed, oh0_3, oh0_4, oh0_5, oh0_6, oh0_7, oh0_8, oh0_9, oh0_10, oh0_11, oh0_12, oh0_13, oh0_14, .int (v_at_e0 + (1 : Int32)), .int v_at_e0, .int (9 : Int32), .int (0 : Int32), oh0_19, oh0_20, oh0_21, oh0_22, oh0_23, oh0_24, oh0_25, oh0_26, oh0_27, oh0_28, oh0_29, oh0_30, oh0_31, oh0_32, oh0_33, oh0_34, oh0_35, oh0_36, oh0_37])), (h0_text, .inl (cy 0, 500, .inl v_text))] := hD
          obtain ⟨rfl, rfl, rfl, rfl⟩ := si4 hM
          exact hret _ _ _ _ dX9_step_290 hP hD hS
        · have hM := g_pos c277 hM
          refine lv_bipush (v := 7) hx hb dX9_step_280 (by decide) ?_
          refine lv_goto (tgt := 287) hx hb dX9_step_282 (by decide) ?_
          refine va_put (D := D) (ci := 9) (v := .int (7 : Int32)) (ty := .int) (C := RX9) (T := TX9) (N := 38) hx hb hts iX9 tyX9 tyX9_ok nmX9 hown hK hP hD hS 0 rfl rfl 17 (by decide) k120 (fun _ h9 => h9) rfl (by decide +kernel) rfl rfl (Nat.le_of_ble_eq_true rfl) dX9_step_287 (fun H locs hP hD hS => ?_)
          have hP : va_P D vwCl [(h0, .inr (9, [oh0_0, .ref h0_text, .int v_typed, oh0_3, oh0_4, oh0_5, oh0_6, oh0_7, oh0_8, oh0_9, oh0_10, oh0_11, oh0_12, oh0_13, oh0_14, .int (v_at_e0 + (1 : Int32)), .int v_at_e0, .int (7 : Int32), .int (0 : Int32), oh0_19, oh0_20, oh0_21, oh0_22, oh0_23, oh0_24, oh0_25, oh0_26, oh0_27, oh0_28, oh0_29, oh0_30, oh0_31, oh0_32, oh0_33, oh0_34, oh0_35, oh0_36, oh0_37])), (h0_text, .inl (cy 0, 500, .inl v_text))] H := hP
          have hD : va_D A [(h0, .inr (9, [oh0_0, .ref h0_text, .int v_typed, oh0_3, oh0_4, oh0_5, oh0_6, oh0_7, oh0_8, oh0_9, oh0_10, oh0_11, oh0_12, oh0_13, oh0_14, .int (v_at_e0 + (1 : Int32)), .int v_at_e0, .int (7 : Int32), .int (0 : Int32), oh0_19, oh0_20, oh0_21, oh0_22, oh0_23, oh0_24, oh0_25, oh0_26, oh0_27, oh0_28, oh0_29, oh0_30, oh0_31, oh0_32, oh0_33, oh0_34, oh0_35, oh0_36, oh0_37])), (h0_text, .inl (cy 0, 500, .inl v_text))] := hD
          obtain ⟨rfl, rfl, rfl, rfl⟩ := si4 hM
          exact hret _ _ _ _ dX9_step_290 hP hD hS
      · have hM := g_neg c186 hM
        have L189 : ∀ (n : Nat) (v_at_189 : Int32) (v_value_189 : Int32) (v_at_e189 : Int32) (v_value_e189 : Int32) (H : Heap) (locs : List Loc) (ls : Array Slot), f9_step_L189 N v_typed v_text v_at_e0 n v_at_189 v_value_189 = some (v_at_e189, v_value_e189) → va_P D vwCl [(h0, .inr (9, [oh0_0, .ref h0_text, .int v_typed, oh0_3, oh0_4, oh0_5, oh0_6, oh0_7, oh0_8, oh0_9, oh0_10, oh0_11, oh0_12, oh0_13, oh0_14, .int v_at_189, .int v_at_e0, .int v_sort, .int v_value_189, oh0_19, oh0_20, oh0_21, oh0_22, oh0_23, oh0_24, oh0_25, oh0_26, oh0_27, oh0_28, oh0_29, oh0_30, oh0_31, oh0_32, oh0_33, oh0_34, oh0_35, oh0_36, oh0_37])), (h0_text, .inl (cy 0, 500, .inl v_text))] H → va_D A [(h0, .inr (9, [oh0_0, .ref h0_text, .int v_typed, oh0_3, oh0_4, oh0_5, oh0_6, oh0_7, oh0_8, oh0_9, oh0_10, oh0_11, oh0_12, oh0_13, oh0_14, .int v_at_189, .int v_at_e0, .int v_sort, .int v_value_189, oh0_19, oh0_20, oh0_21, oh0_22, oh0_23, oh0_24, oh0_25, oh0_26, oh0_27, oh0_28, oh0_29, oh0_30, oh0_31, oh0_32, oh0_33, oh0_34, oh0_35, oh0_36, oh0_37])), (h0_text, .inl (cy 0, 500, .inl v_text))] → va_S A s.heap H locs → lv_has ls 5 [(0, .ref h0)] → (∀ (H : Heap) (locs : List Loc) (ls : Array Slot), va_P D vwCl [(h0, .inr (9, [oh0_0, .ref h0_text, .int v_typed, oh0_3, oh0_4, oh0_5, oh0_6, oh0_7, oh0_8, oh0_9, oh0_10, oh0_11, oh0_12, oh0_13, oh0_14, .int v_at_e189, .int v_at_e0, .int v_sort, .int v_value_e189, oh0_19, oh0_20, oh0_21, oh0_22, oh0_23, oh0_24, oh0_25, oh0_26, oh0_27, oh0_28, oh0_29, oh0_30, oh0_31, oh0_32, oh0_33, oh0_34, oh0_35, oh0_36, oh0_37])), (h0_text, .inl (cy 0, 500, .inl v_text))] H → va_D A [(h0, .inr (9, [oh0_0, .ref h0_text, .int v_typed, oh0_3, oh0_4, oh0_5, oh0_6, oh0_7, oh0_8, oh0_9, oh0_10, oh0_11, oh0_12, oh0_13, oh0_14, .int v_at_e189, .int v_at_e0, .int v_sort, .int v_value_e189, oh0_19, oh0_20, oh0_21, oh0_22, oh0_23, oh0_24, oh0_25, oh0_26, oh0_27, oh0_28, oh0_29, oh0_30, oh0_31, oh0_32, oh0_33, oh0_34, oh0_35, oh0_36, oh0_37])), (h0_text, .inl (cy 0, 500, .inl v_text))] → va_S A s.heap H locs → lv_has ls 5 [(0, .ref h0)] → W p l e r9_step s m args below meth c H locs 0 0 Q (F0 m 254 ls [])) → W p l e r9_step s m args below meth c H locs 0 0 Q (F0 m 189 ls []) := by
          intro n189
          induction n189 with
          | zero =>
            intro v_at_189 v_value_189 v_at_e189 v_value_e189 H locs ls hM
            exact absurd hM (by simp [f9_step_L189])
          | succ n189 ih189 =>
            intro v_at_189 v_value_189 v_at_e189 v_value_e189 H locs ls hM hP hD hS hl K
            rw [f9_step_L189] at hM
            refine lv_aload_n hx hb dX9_step_189 rfl (lv_at hl 0 rfl) ?_
            obtain ⟨r190, hc190, hM⟩ := ob1_some hM
            refine cl_vi (As := []) (rest := []) (ci := 9) (q0 := 0) (wr := []) (ws2 := [(h0, .inr (9, [oh0_0, .ref h0_text, .int v_typed, oh0_3, oh0_4, oh0_5, oh0_6, oh0_7, oh0_8, oh0_9, oh0_10, oh0_11, oh0_12, oh0_13, oh0_14, .int v_at_189, .int v_at_e0, .int v_sort, .int v_value_189, oh0_19, oh0_20, oh0_21, oh0_22, oh0_23, oh0_24, oh0_25, oh0_26, oh0_27, oh0_28, oh0_29, oh0_30, oh0_31, oh0_32, oh0_33, oh0_34, oh0_35, oh0_36, oh0_37])), (h0_text, .inl (cy 0, 500, .inl v_text))]) (isC := [0, 1]) (isR := []) (pm := [0, 1]) hx hb hml hown hts (c9_here l D cy N h0 h0_text oh0_0 oh0_3 oh0_4 oh0_5 oh0_6 oh0_7 oh0_8 oh0_9 oh0_10 oh0_11 oh0_12 oh0_13 oh0_14 (.int v_at_e0) (.int v_sort) (.int v_value_189) oh0_19 oh0_20 oh0_21 oh0_22 oh0_23 oh0_24 oh0_25 oh0_26 oh0_27 oh0_28 oh0_29 oh0_30 oh0_31 oh0_32 oh0_33 oh0_34 oh0_35 oh0_36 oh0_37 v_typed v_at_189 v_text r190 hc190) (cwV 0 hts gX9_step_X9_here rfl rfl rfl (by decide +kernel) ⟨Nat.le_of_ble_eq_true rfl, Nat.le_of_ble_eq_true rfl⟩) hK hP hD hS hA rfl rfl rfl rfl rfl (by decide) rfl rfl rfl hl.1 (Nat.le_of_ble_eq_true rfl) dX9_step_190 ⟨Nat.zero_le _, Nat.zero_le _⟩ rfl rfl (fun H locs hP hD hS => ?_)
            refine lv_bipush (v := 48) hx hb dX9_step_193 (by decide) ?_
            refine lv_bipush (v := 57) hx hb dX9_step_195 (by decide) ?_
            obtain ⟨r197, hc197, hM⟩ := ob1_some hM
            refine cl_si (As := [.int r190, .int (48 : Int32), .int (57 : Int32)]) (rest := []) (wr := [(h0, .inr (9, [oh0_0, .ref h0_text, .int v_typed, oh0_3, oh0_4, oh0_5, oh0_6, oh0_7, oh0_8, oh0_9, oh0_10, oh0_11, oh0_12, oh0_13, oh0_14, .int v_at_189, .int v_at_e0, .int v_sort, .int v_value_189, oh0_19, oh0_20, oh0_21, oh0_22, oh0_23, oh0_24, oh0_25, oh0_26, oh0_27, oh0_28, oh0_29, oh0_30, oh0_31, oh0_32, oh0_33, oh0_34, oh0_35, oh0_36, oh0_37])), (h0_text, .inl (cy 0, 500, .inl v_text))]) (ws2 := [(h0, .inr (9, [oh0_0, .ref h0_text, .int v_typed, oh0_3, oh0_4, oh0_5, oh0_6, oh0_7, oh0_8, oh0_9, oh0_10, oh0_11, oh0_12, oh0_13, oh0_14, .int v_at_189, .int v_at_e0, .int v_sort, .int v_value_189, oh0_19, oh0_20, oh0_21, oh0_22, oh0_23, oh0_24, oh0_25, oh0_26, oh0_27, oh0_28, oh0_29, oh0_30, oh0_31, oh0_32, oh0_33, oh0_34, oh0_35, oh0_36, oh0_37])), (h0_text, .inl (cy 0, 500, .inl v_text))]) (isC := []) (isR := [0, 1]) (pm := [0, 1]) hx hb hml hown hts (c9_in l D cy N r190 (48 : Int32) (57 : Int32) r197 hc197) (va_cwS 3 hts gX9_step_X9_in rfl rfl rfl (by decide +kernel) ⟨Nat.le_of_ble_eq_true rfl, Nat.le_of_ble_eq_true rfl⟩) hK hP hD hS hA rfl rfl rfl (by decide) rfl rfl rfl hl.1 (Nat.le_of_ble_eq_true rfl) dX9_step_197 ⟨Nat.zero_le _, Nat.zero_le _⟩ rfl rfl (fun H locs hP hD hS => ?_)
            refine lv_if_eq (tgt := 254) hx hb dX9_step_200 (by decide) (fun c200 => ?_) (fun c200 => ?_)
            · have hM := g_pos c200 hM
              obtain ⟨rfl, rfl⟩ := si2 hM
              exact K _ _ _ hP hD hS (lv_sub hl [0] rfl)
            · have hM := g_neg c200 hM
              refine lv_aload_n hx hb dX9_step_203 rfl (lv_at hl 0 rfl) ?_
              refine lv_aload_n hx hb dX9_step_204 rfl (lv_at hl 0 rfl) ?_
              refine va_get (D := D) (ci := 9) (v := .int v_at_189) (C := RX9) (T := TX9) (N := 38) hx hb hts iX9 hown hK hP 0 rfl rfl 15 (by decide) k106 (fun _ h9 => h9) rfl dX9_step_205 ?_
              refine lv_aload_n hx hb dX9_step_208 rfl (lv_at hl 0 rfl) ?_
              refine va_get (D := D) (ci := 9) (v := .int v_at_e0) (C := RX9) (T := TX9) (N := 38) hx hb hts iX9 hown hK hP 0 rfl rfl 16 (by decide) k114 (fun _ h9 => h9) rfl dX9_step_209 ?_
              refine lv_isub hx hb dX9_step_212 ?_
              refine lv_iconst (v := 3) hx hb dX9_step_213 (by decide) ?_
              refine lv_icmp_ge (tgt := 235) hx hb dX9_step_214 (by decide) (fun c214 => ?_) (fun c214 => ?_)
              · have hM := g_pos c214 hM
                refine lv_sipush (v := 9999) hx hb dX9_step_235 (by decide) ?_
                refine va_put (D := D) (ci := 9) (v := .int (9999 : Int32)) (ty := .int) (C := RX9) (T := TX9) (N := 38) hx hb hts iX9 tyX9 tyX9_ok nmX9 hown hK hP hD hS 0 rfl rfl 18 (by decide) k117 (fun _ h9 => h9) rfl (by decide +kernel) rfl rfl (Nat.le_of_ble_eq_true rfl) dX9_step_238 (fun H locs hP hD hS => ?_)
                have hP : va_P D vwCl [(h0, .inr (9, [oh0_0, .ref h0_text, .int v_typed, oh0_3, oh0_4, oh0_5, oh0_6, oh0_7, oh0_8, oh0_9, oh0_10, oh0_11, oh0_12, oh0_13, oh0_14, .int v_at_189, .int v_at_e0, .int v_sort, .int (9999 : Int32), oh0_19, oh0_20, oh0_21, oh0_22, oh0_23, oh0_24, oh0_25, oh0_26, oh0_27, oh0_28, oh0_29, oh0_30, oh0_31, oh0_32, oh0_33, oh0_34, oh0_35, oh0_36, oh0_37])), (h0_text, .inl (cy 0, 500, .inl v_text))] H := hP
                have hD : va_D A [(h0, .inr (9, [oh0_0, .ref h0_text, .int v_typed, oh0_3, oh0_4, oh0_5, oh0_6, oh0_7, oh0_8, oh0_9, oh0_10, oh0_11, oh0_12, oh0_13, oh0_14, .int v_at_189, .int v_at_e0, .int v_sort, .int (9999 : Int32), oh0_19, oh0_20, oh0_21, oh0_22, oh0_23, oh0_24, oh0_25, oh0_26, oh0_27, oh0_28, oh0_29, oh0_30, oh0_31, oh0_32, oh0_33, oh0_34, oh0_35, oh0_36, oh0_37])), (h0_text, .inl (cy 0, 500, .inl v_text))] := hD
                refine lv_aload_n hx hb dX9_step_241 rfl (lv_at hl 0 rfl) ?_
                refine lv_dup hx hb dX9_step_242 rfl ?_
                refine va_get (D := D) (ci := 9) (v := .int v_at_189) (C := RX9) (T := TX9) (N := 38) hx hb hts iX9 hown hK hP 0 rfl rfl 15 (by decide) k106 (fun _ h9 => h9) rfl dX9_step_243 ?_
                refine lv_iconst (v := 1) hx hb dX9_step_246 (by decide) ?_
                refine lv_iadd hx hb dX9_step_247 ?_
                refine va_put (D := D) (ci := 9) (v := .int (v_at_189 + (1 : Int32))) (ty := .int) (C := RX9) (T := TX9) (N := 38) hx hb hts iX9 tyX9 tyX9_ok nmX9 hown hK hP hD hS 0 rfl rfl 15 (by decide) k106 (fun _ h9 => h9) rfl (by decide +kernel) rfl rfl (Nat.le_of_ble_eq_true rfl) dX9_step_248 (fun H locs hP hD hS => ?_)
                have hP : va_P D vwCl [(h0, .inr (9, [oh0_0, .ref h0_text, .int v_typed, oh0_3, oh0_4, oh0_5, oh0_6, oh0_7, oh0_8, oh0_9, oh0_10, oh0_11, oh0_12, oh0_13, oh0_14, .int (v_at_189 + (1 : Int32)), .int v_at_e0, .int v_sort, .int (9999 : Int32), oh0_19, oh0_20, oh0_21, oh0_22, oh0_23, oh0_24, oh0_25, oh0_26, oh0_27, oh0_28, oh0_29, oh0_30, oh0_31, oh0_32, oh0_33, oh0_34, oh0_35, oh0_36, oh0_37])), (h0_text, .inl (cy 0, 500, .inl v_text))] H := hP
                have hD : va_D A [(h0, .inr (9, [oh0_0, .ref h0_text, .int v_typed, oh0_3, oh0_4, oh0_5, oh0_6, oh0_7, oh0_8, oh0_9, oh0_10, oh0_11, oh0_12, oh0_13, oh0_14, .int (v_at_189 + (1 : Int32)), .int v_at_e0, .int v_sort, .int (9999 : Int32), oh0_19, oh0_20, oh0_21, oh0_22, oh0_23, oh0_24, oh0_25, oh0_26, oh0_27, oh0_28, oh0_29, oh0_30, oh0_31, oh0_32, oh0_33, oh0_34, oh0_35, oh0_36, oh0_37])), (h0_text, .inl (cy 0, 500, .inl v_text))] := hD
                refine lv_goto (tgt := 189) hx hb dX9_step_251 (by decide) ?_
                exact ih189 (v_at_189 + (1 : Int32)) (9999 : Int32) v_at_e189 v_value_e189 _ _ _ hM hP hD hS (lv_sub hl [0] rfl) K
              · have hM := g_neg c214 hM
                refine lv_bipush (v := 10) hx hb dX9_step_217 (by decide) ?_
                refine lv_aload_n hx hb dX9_step_219 rfl (lv_at hl 0 rfl) ?_
                refine va_get (D := D) (ci := 9) (v := .int v_value_189) (C := RX9) (T := TX9) (N := 38) hx hb hts iX9 hown hK hP 0 rfl rfl 18 (by decide) k117 (fun _ h9 => h9) rfl dX9_step_220 ?_
                refine lv_imul hx hb dX9_step_223 ?_
                refine lv_aload_n hx hb dX9_step_224 rfl (lv_at hl 0 rfl) ?_
                obtain ⟨r225, hc225, hM⟩ := ob1_some hM
                refine cl_vi (As := []) (rest := [.int ((10 : Int32) * v_value_189), .ref h0]) (ci := 9) (q0 := 0) (wr := []) (ws2 := [(h0, .inr (9, [oh0_0, .ref h0_text, .int v_typed, oh0_3, oh0_4, oh0_5, oh0_6, oh0_7, oh0_8, oh0_9, oh0_10, oh0_11, oh0_12, oh0_13, oh0_14, .int v_at_189, .int v_at_e0, .int v_sort, .int v_value_189, oh0_19, oh0_20, oh0_21, oh0_22, oh0_23, oh0_24, oh0_25, oh0_26, oh0_27, oh0_28, oh0_29, oh0_30, oh0_31, oh0_32, oh0_33, oh0_34, oh0_35, oh0_36, oh0_37])), (h0_text, .inl (cy 0, 500, .inl v_text))]) (isC := [0, 1]) (isR := []) (pm := [0, 1]) hx hb hml hown hts (c9_here l D cy N h0 h0_text oh0_0 oh0_3 oh0_4 oh0_5 oh0_6 oh0_7 oh0_8 oh0_9 oh0_10 oh0_11 oh0_12 oh0_13 oh0_14 (.int v_at_e0) (.int v_sort) (.int v_value_189) oh0_19 oh0_20 oh0_21 oh0_22 oh0_23 oh0_24 oh0_25 oh0_26 oh0_27 oh0_28 oh0_29 oh0_30 oh0_31 oh0_32 oh0_33 oh0_34 oh0_35 oh0_36 oh0_37 v_typed v_at_189 v_text r225 hc225) (cwV 0 hts gX9_step_X9_here rfl rfl rfl (by decide +kernel) ⟨Nat.le_of_ble_eq_true rfl, Nat.le_of_ble_eq_true rfl⟩) hK hP hD hS hA rfl rfl rfl rfl rfl (by decide) rfl rfl rfl hl.1 (Nat.le_of_ble_eq_true rfl) dX9_step_225 ⟨Nat.zero_le _, Nat.zero_le _⟩ rfl rfl (fun H locs hP hD hS => ?_)
                refine lv_iadd hx hb dX9_step_228 ?_
                refine lv_bipush (v := 48) hx hb dX9_step_229 (by decide) ?_
                refine lv_isub hx hb dX9_step_231 ?_
                refine lv_goto (tgt := 238) hx hb dX9_step_232 (by decide) ?_
                refine va_put (D := D) (ci := 9) (v := .int ((((10 : Int32) * v_value_189) + r225) - (48 : Int32))) (ty := .int) (C := RX9) (T := TX9) (N := 38) hx hb hts iX9 tyX9 tyX9_ok nmX9 hown hK hP hD hS 0 rfl rfl 18 (by decide) k117 (fun _ h9 => h9) rfl (by decide +kernel) rfl rfl (Nat.le_of_ble_eq_true rfl) dX9_step_238 (fun H locs hP hD hS => ?_)
                have hP : va_P D vwCl [(h0, .inr (9, [oh0_0, .ref h0_text, .int v_typed, oh0_3, oh0_4, oh0_5, oh0_6, oh0_7, oh0_8, oh0_9, oh0_10, oh0_11, oh0_12, oh0_13, oh0_14, .int v_at_189, .int v_at_e0, .int v_sort, .int ((((10 : Int32) * v_value_189) + r225) - (48 : Int32)), oh0_19, oh0_20, oh0_21, oh0_22, oh0_23, oh0_24, oh0_25, oh0_26, oh0_27, oh0_28, oh0_29, oh0_30, oh0_31, oh0_32, oh0_33, oh0_34, oh0_35, oh0_36, oh0_37])), (h0_text, .inl (cy 0, 500, .inl v_text))] H := hP
                have hD : va_D A [(h0, .inr (9, [oh0_0, .ref h0_text, .int v_typed, oh0_3, oh0_4, oh0_5, oh0_6, oh0_7, oh0_8, oh0_9, oh0_10, oh0_11, oh0_12, oh0_13, oh0_14, .int v_at_189, .int v_at_e0, .int v_sort, .int ((((10 : Int32) * v_value_189) + r225) - (48 : Int32)), oh0_19, oh0_20, oh0_21, oh0_22, oh0_23, oh0_24, oh0_25, oh0_26, oh0_27, oh0_28, oh0_29, oh0_30, oh0_31, oh0_32, oh0_33, oh0_34, oh0_35, oh0_36, oh0_37])), (h0_text, .inl (cy 0, 500, .inl v_text))] := hD
                refine lv_aload_n hx hb dX9_step_241 rfl (lv_at hl 0 rfl) ?_
                refine lv_dup hx hb dX9_step_242 rfl ?_
                refine va_get (D := D) (ci := 9) (v := .int v_at_189) (C := RX9) (T := TX9) (N := 38) hx hb hts iX9 hown hK hP 0 rfl rfl 15 (by decide) k106 (fun _ h9 => h9) rfl dX9_step_243 ?_
                refine lv_iconst (v := 1) hx hb dX9_step_246 (by decide) ?_
                refine lv_iadd hx hb dX9_step_247 ?_
                refine va_put (D := D) (ci := 9) (v := .int (v_at_189 + (1 : Int32))) (ty := .int) (C := RX9) (T := TX9) (N := 38) hx hb hts iX9 tyX9 tyX9_ok nmX9 hown hK hP hD hS 0 rfl rfl 15 (by decide) k106 (fun _ h9 => h9) rfl (by decide +kernel) rfl rfl (Nat.le_of_ble_eq_true rfl) dX9_step_248 (fun H locs hP hD hS => ?_)
                have hP : va_P D vwCl [(h0, .inr (9, [oh0_0, .ref h0_text, .int v_typed, oh0_3, oh0_4, oh0_5, oh0_6, oh0_7, oh0_8, oh0_9, oh0_10, oh0_11, oh0_12, oh0_13, oh0_14, .int (v_at_189 + (1 : Int32)), .int v_at_e0, .int v_sort, .int ((((10 : Int32) * v_value_189) + r225) - (48 : Int32)), oh0_19, oh0_20, oh0_21, oh0_22, oh0_23, oh0_24, oh0_25, oh0_26, oh0_27, oh0_28, oh0_29, oh0_30, oh0_31, oh0_32, oh0_33, oh0_34, oh0_35, oh0_36, oh0_37])), (h0_text, .inl (cy 0, 500, .inl v_text))] H := hP
                have hD : va_D A [(h0, .inr (9, [oh0_0, .ref h0_text, .int v_typed, oh0_3, oh0_4, oh0_5, oh0_6, oh0_7, oh0_8, oh0_9, oh0_10, oh0_11, oh0_12, oh0_13, oh0_14, .int (v_at_189 + (1 : Int32)), .int v_at_e0, .int v_sort, .int ((((10 : Int32) * v_value_189) + r225) - (48 : Int32)), oh0_19, oh0_20, oh0_21, oh0_22, oh0_23, oh0_24, oh0_25, oh0_26, oh0_27, oh0_28, oh0_29, oh0_30, oh0_31, oh0_32, oh0_33, oh0_34, oh0_35, oh0_36, oh0_37])), (h0_text, .inl (cy 0, 500, .inl v_text))] := hD
                refine lv_goto (tgt := 189) hx hb dX9_step_251 (by decide) ?_
                exact ih189 (v_at_189 + (1 : Int32)) ((((10 : Int32) * v_value_189) + r225) - (48 : Int32)) v_at_e189 v_value_e189 _ _ _ hM hP hD hS (lv_sub hl [0] rfl) K
        obtain ⟨v_at_e189, v_value_e189, hL189, hM⟩ := ob2_some hM
        refine L189 N v_at_e0 (0 : Int32) v_at_e189 v_value_e189 _ _ _ hL189 hP hD hS (lv_sub hl [1] rfl) ?_
        intro H locs ls hP hD hS hl
        refine lv_aload_n hx hb dX9_step_254 rfl (lv_at hl 0 rfl) ?_
        refine lv_bipush (v := 6) hx hb dX9_step_255 (by decide) ?_
        refine va_put (D := D) (ci := 9) (v := .int (6 : Int32)) (ty := .int) (C := RX9) (T := TX9) (N := 38) hx hb hts iX9 tyX9 tyX9_ok nmX9 hown hK hP hD hS 0 rfl rfl 17 (by decide) k120 (fun _ h9 => h9) rfl (by decide +kernel) rfl rfl (Nat.le_of_ble_eq_true rfl) dX9_step_257 (fun H locs hP hD hS => ?_)
        have hP : va_P D vwCl [(h0, .inr (9, [oh0_0, .ref h0_text, .int v_typed, oh0_3, oh0_4, oh0_5, oh0_6, oh0_7, oh0_8, oh0_9, oh0_10, oh0_11, oh0_12, oh0_13, oh0_14, .int v_at_e189, .int v_at_e0, .int (6 : Int32), .int v_value_e189, oh0_19, oh0_20, oh0_21, oh0_22, oh0_23, oh0_24, oh0_25, oh0_26, oh0_27, oh0_28, oh0_29, oh0_30, oh0_31, oh0_32, oh0_33, oh0_34, oh0_35, oh0_36, oh0_37])), (h0_text, .inl (cy 0, 500, .inl v_text))] H := hP
        have hD : va_D A [(h0, .inr (9, [oh0_0, .ref h0_text, .int v_typed, oh0_3, oh0_4, oh0_5, oh0_6, oh0_7, oh0_8, oh0_9, oh0_10, oh0_11, oh0_12, oh0_13, oh0_14, .int v_at_e189, .int v_at_e0, .int (6 : Int32), .int v_value_e189, oh0_19, oh0_20, oh0_21, oh0_22, oh0_23, oh0_24, oh0_25, oh0_26, oh0_27, oh0_28, oh0_29, oh0_30, oh0_31, oh0_32, oh0_33, oh0_34, oh0_35, oh0_36, oh0_37])), (h0_text, .inl (cy 0, 500, .inl v_text))] := hD
        refine lv_goto (tgt := 290) hx hb dX9_step_260 (by decide) ?_
        obtain ⟨rfl, rfl, rfl, rfl⟩ := si4 hM
        exact hret _ _ _ _ dX9_step_290 hP hD hS
    · have hM := g_neg c61 hM
      refine lv_iconst (v := 0) hx hb dX9_step_64 (by decide) ?_
      refine lv_istore_n (lv' := [(2, .int (0 : Int32)), (1, .int r36), (0, .ref h0)]) hx hb dX9_step_65 rfl hl (by decide) rfl (fun ls hl => ?_)
      refine lv_iconst (v := 0) hx hb dX9_step_66 (by decide) ?_
      refine lv_istore_n (lv' := [(3, .int (0 : Int32)), (2, .int (0 : Int32)), (1, .int r36), (0, .ref h0)]) hx hb dX9_step_67 rfl hl (by decide) rfl (fun ls hl => ?_)
      have L68 : ∀ (n : Nat) (x2_68 : Int32) (x3_68 : Int32) (v_at_68 : Int32) (e2_68 : Int32) (e3_68 : Int32) (v_at_e68 : Int32) (H : Heap) (locs : List Loc) (ls : Array Slot), f9_step_L68 N v_typed v_text v_at_e0 n x2_68 x3_68 v_at_68 = some (e2_68, e3_68, v_at_e68) → va_P D vwCl [(h0, .inr (9, [oh0_0, .ref h0_text, .int v_typed, oh0_3, oh0_4, oh0_5, oh0_6, oh0_7, oh0_8, oh0_9, oh0_10, oh0_11, oh0_12, oh0_13, oh0_14, .int v_at_68, .int v_at_e0, .int v_sort, .int (0 : Int32), oh0_19, oh0_20, oh0_21, oh0_22, oh0_23, oh0_24, oh0_25, oh0_26, oh0_27, oh0_28, oh0_29, oh0_30, oh0_31, oh0_32, oh0_33, oh0_34, oh0_35, oh0_36, oh0_37])), (h0_text, .inl (cy 0, 500, .inl v_text))] H → va_D A [(h0, .inr (9, [oh0_0, .ref h0_text, .int v_typed, oh0_3, oh0_4, oh0_5, oh0_6, oh0_7, oh0_8, oh0_9, oh0_10, oh0_11, oh0_12, oh0_13, oh0_14, .int v_at_68, .int v_at_e0, .int v_sort, .int (0 : Int32), oh0_19, oh0_20, oh0_21, oh0_22, oh0_23, oh0_24, oh0_25, oh0_26, oh0_27, oh0_28, oh0_29, oh0_30, oh0_31, oh0_32, oh0_33, oh0_34, oh0_35, oh0_36, oh0_37])), (h0_text, .inl (cy 0, 500, .inl v_text))] → va_S A s.heap H locs → lv_has ls 5 [(0, .ref h0), (2, .int x2_68), (3, .int x3_68)] → (∀ (H : Heap) (locs : List Loc) (ls : Array Slot), va_P D vwCl [(h0, .inr (9, [oh0_0, .ref h0_text, .int v_typed, oh0_3, oh0_4, oh0_5, oh0_6, oh0_7, oh0_8, oh0_9, oh0_10, oh0_11, oh0_12, oh0_13, oh0_14, .int v_at_e68, .int v_at_e0, .int v_sort, .int (0 : Int32), oh0_19, oh0_20, oh0_21, oh0_22, oh0_23, oh0_24, oh0_25, oh0_26, oh0_27, oh0_28, oh0_29, oh0_30, oh0_31, oh0_32, oh0_33, oh0_34, oh0_35, oh0_36, oh0_37])), (h0_text, .inl (cy 0, 500, .inl v_text))] H → va_D A [(h0, .inr (9, [oh0_0, .ref h0_text, .int v_typed, oh0_3, oh0_4, oh0_5, oh0_6, oh0_7, oh0_8, oh0_9, oh0_10, oh0_11, oh0_12, oh0_13, oh0_14, .int v_at_e68, .int v_at_e0, .int v_sort, .int (0 : Int32), oh0_19, oh0_20, oh0_21, oh0_22, oh0_23, oh0_24, oh0_25, oh0_26, oh0_27, oh0_28, oh0_29, oh0_30, oh0_31, oh0_32, oh0_33, oh0_34, oh0_35, oh0_36, oh0_37])), (h0_text, .inl (cy 0, 500, .inl v_text))] → va_S A s.heap H locs → lv_has ls 5 [(0, .ref h0), (2, .int e2_68), (3, .int e3_68)] → W p l e r9_step s m args below meth c H locs 0 0 Q (F0 m 166 ls [])) → W p l e r9_step s m args below meth c H locs 0 0 Q (F0 m 68 ls []) := by
        intro n68
        induction n68 with
        | zero =>
          intro x2_68 x3_68 v_at_68 e2_68 e3_68 v_at_e68 H locs ls hM
          exact absurd hM (by simp [f9_step_L68])
        | succ n68 ih68 =>
          intro x2_68 x3_68 v_at_68 e2_68 e3_68 v_at_e68 H locs ls hM hP hD hS hl K
          rw [f9_step_L68] at hM
          refine lv_aload_n hx hb dX9_step_68 rfl (lv_at hl 0 rfl) ?_
          obtain ⟨r69, hc69, hM⟩ := ob1_some hM
          refine cl_vi (As := []) (rest := []) (ci := 9) (q0 := 0) (wr := []) (ws2 := [(h0, .inr (9, [oh0_0, .ref h0_text, .int v_typed, oh0_3, oh0_4, oh0_5, oh0_6, oh0_7, oh0_8, oh0_9, oh0_10, oh0_11, oh0_12, oh0_13, oh0_14, .int v_at_68, .int v_at_e0, .int v_sort, .int (0 : Int32), oh0_19, oh0_20, oh0_21, oh0_22, oh0_23, oh0_24, oh0_25, oh0_26, oh0_27, oh0_28, oh0_29, oh0_30, oh0_31, oh0_32, oh0_33, oh0_34, oh0_35, oh0_36, oh0_37])), (h0_text, .inl (cy 0, 500, .inl v_text))]) (isC := [0, 1]) (isR := []) (pm := [0, 1]) hx hb hml hown hts (c9_here l D cy N h0 h0_text oh0_0 oh0_3 oh0_4 oh0_5 oh0_6 oh0_7 oh0_8 oh0_9 oh0_10 oh0_11 oh0_12 oh0_13 oh0_14 (.int v_at_e0) (.int v_sort) (.int (0 : Int32)) oh0_19 oh0_20 oh0_21 oh0_22 oh0_23 oh0_24 oh0_25 oh0_26 oh0_27 oh0_28 oh0_29 oh0_30 oh0_31 oh0_32 oh0_33 oh0_34 oh0_35 oh0_36 oh0_37 v_typed v_at_68 v_text r69 hc69) (cwV 0 hts gX9_step_X9_here rfl rfl rfl (by decide +kernel) ⟨Nat.le_of_ble_eq_true rfl, Nat.le_of_ble_eq_true rfl⟩) hK hP hD hS hA rfl rfl rfl rfl rfl (by decide) rfl rfl rfl hl.1 (Nat.le_of_ble_eq_true rfl) dX9_step_69 ⟨Nat.zero_le _, Nat.zero_le _⟩ rfl rfl (fun H locs hP hD hS => ?_)
          refine lv_bipush (v := 97) hx hb dX9_step_72 (by decide) ?_
          refine lv_bipush (v := 122) hx hb dX9_step_74 (by decide) ?_
          obtain ⟨r76, hc76, hM⟩ := ob1_some hM
          refine cl_si (As := [.int r69, .int (97 : Int32), .int (122 : Int32)]) (rest := []) (wr := [(h0, .inr (9, [oh0_0, .ref h0_text, .int v_typed, oh0_3, oh0_4, oh0_5, oh0_6, oh0_7, oh0_8, oh0_9, oh0_10, oh0_11, oh0_12, oh0_13, oh0_14, .int v_at_68, .int v_at_e0, .int v_sort, .int (0 : Int32), oh0_19, oh0_20, oh0_21, oh0_22, oh0_23, oh0_24, oh0_25, oh0_26, oh0_27, oh0_28, oh0_29, oh0_30, oh0_31, oh0_32, oh0_33, oh0_34, oh0_35, oh0_36, oh0_37])), (h0_text, .inl (cy 0, 500, .inl v_text))]) (ws2 := [(h0, .inr (9, [oh0_0, .ref h0_text, .int v_typed, oh0_3, oh0_4, oh0_5, oh0_6, oh0_7, oh0_8, oh0_9, oh0_10, oh0_11, oh0_12, oh0_13, oh0_14, .int v_at_68, .int v_at_e0, .int v_sort, .int (0 : Int32), oh0_19, oh0_20, oh0_21, oh0_22, oh0_23, oh0_24, oh0_25, oh0_26, oh0_27, oh0_28, oh0_29, oh0_30, oh0_31, oh0_32, oh0_33, oh0_34, oh0_35, oh0_36, oh0_37])), (h0_text, .inl (cy 0, 500, .inl v_text))]) (isC := []) (isR := [0, 1]) (pm := [0, 1]) hx hb hml hown hts (c9_in l D cy N r69 (97 : Int32) (122 : Int32) r76 hc76) (va_cwS 3 hts gX9_step_X9_in rfl rfl rfl (by decide +kernel) ⟨Nat.le_of_ble_eq_true rfl, Nat.le_of_ble_eq_true rfl⟩) hK hP hD hS hA rfl rfl rfl (by decide) rfl rfl rfl hl.1 (Nat.le_of_ble_eq_true rfl) dX9_step_76 ⟨Nat.zero_le _, Nat.zero_le _⟩ rfl rfl (fun H locs hP hD hS => ?_)
          refine lv_if_eq (tgt := 166) hx hb dX9_step_79 (by decide) (fun c79 => ?_) (fun c79 => ?_)
          · have hM := g_pos c79 hM
            obtain ⟨rfl, rfl, rfl⟩ := si3 hM
            exact K _ _ _ hP hD hS (lv_sub hl [0, 1, 2] rfl)
          · have hM := g_neg c79 hM
            refine lv_aload_n hx hb dX9_step_82 rfl (lv_at hl 0 rfl) ?_
            refine va_get (D := D) (ci := 9) (v := .int v_at_68) (C := RX9) (T := TX9) (N := 38) hx hb hts iX9 hown hK hP 0 rfl rfl 15 (by decide) k106 (fun _ h9 => h9) rfl dX9_step_83 ?_
            refine lv_aload_n hx hb dX9_step_86 rfl (lv_at hl 0 rfl) ?_
            refine va_get (D := D) (ci := 9) (v := .int v_at_e0) (C := RX9) (T := TX9) (N := 38) hx hb hts iX9 hown hK hP 0 rfl rfl 16 (by decide) k114 (fun _ h9 => h9) rfl dX9_step_87 ?_
            refine lv_isub hx hb dX9_step_90 ?_
            refine lv_istore (lv' := [(4, .int (v_at_68 - v_at_e0)), (0, .ref h0), (2, .int x2_68), (3, .int x3_68)]) hx hb dX9_step_91 hl (by decide) rfl (fun ls hl => ?_)
            refine lv_iload hx hb dX9_step_93 (lv_at hl 0 rfl) ?_
            refine lv_bipush (v := 6) hx hb dX9_step_95 (by decide) ?_
            have K116 : ∀ (s0_116 : Int32) (H : Heap) (locs : List Loc) (ls : Array Slot), f9_step_J116 N v_typed v_text v_at_e0 x3_68 v_at_68 (f9_step_L68 N v_typed v_text v_at_e0 n68) s0_116 = some (e2_68, e3_68, v_at_e68) → va_P D vwCl [(h0, .inr (9, [oh0_0, .ref h0_text, .int v_typed, oh0_3, oh0_4, oh0_5, oh0_6, oh0_7, oh0_8, oh0_9, oh0_10, oh0_11, oh0_12, oh0_13, oh0_14, .int v_at_68, .int v_at_e0, .int v_sort, .int (0 : Int32), oh0_19, oh0_20, oh0_21, oh0_22, oh0_23, oh0_24, oh0_25, oh0_26, oh0_27, oh0_28, oh0_29, oh0_30, oh0_31, oh0_32, oh0_33, oh0_34, oh0_35, oh0_36, oh0_37])), (h0_text, .inl (cy 0, 500, .inl v_text))] H → va_D A [(h0, .inr (9, [oh0_0, .ref h0_text, .int v_typed, oh0_3, oh0_4, oh0_5, oh0_6, oh0_7, oh0_8, oh0_9, oh0_10, oh0_11, oh0_12, oh0_13, oh0_14, .int v_at_68, .int v_at_e0, .int v_sort, .int (0 : Int32), oh0_19, oh0_20, oh0_21, oh0_22, oh0_23, oh0_24, oh0_25, oh0_26, oh0_27, oh0_28, oh0_29, oh0_30, oh0_31, oh0_32, oh0_33, oh0_34, oh0_35, oh0_36, oh0_37])), (h0_text, .inl (cy 0, 500, .inl v_text))] → va_S A s.heap H locs → lv_has ls 5 [(0, .ref h0), (3, .int x3_68), (4, .int (v_at_68 - v_at_e0))] → W p l e r9_step s m args below meth c H locs 0 0 Q (F0 m 116 ls [.int s0_116]) := by
              intro s0_116 H locs ls hM hP hD hS hl
              unfold f9_step_J116 at hM
              refine lv_istore_n (lv' := [(2, .int s0_116), (0, .ref h0), (3, .int x3_68), (4, .int (v_at_68 - v_at_e0))]) hx hb dX9_step_116 rfl hl (by decide) rfl (fun ls hl => ?_)
              refine lv_iload hx hb dX9_step_117 (lv_at hl 3 rfl) ?_
              refine lv_bipush (v := 6) hx hb dX9_step_119 (by decide) ?_
              refine lv_icmp_ge (tgt := 128) hx hb dX9_step_121 (by decide) (fun c121 => ?_) (fun c121 => ?_)
              · have hM := g_pos c121 hM
                refine lv_iload hx hb dX9_step_128 (lv_at hl 3 rfl) ?_
                refine lv_bipush (v := 8) hx hb dX9_step_130 (by decide) ?_
                refine lv_icmp_ge (tgt := 150) hx hb dX9_step_132 (by decide) (fun c132 => ?_) (fun c132 => ?_)
                · have hM := g_pos c132 hM
                  refine lv_ldc (v := 999999) hx hb hown k123 dX9_step_150 ?_
                  refine lv_istore_n (lv' := [(3, .int (999999 : Int32)), (2, .int s0_116), (0, .ref h0), (4, .int (v_at_68 - v_at_e0))]) hx hb dX9_step_152 rfl hl (by decide) rfl (fun ls hl => ?_)
                  refine lv_aload_n hx hb dX9_step_153 rfl (lv_at hl 2 rfl) ?_
                  refine lv_dup hx hb dX9_step_154 rfl ?_
                  refine va_get (D := D) (ci := 9) (v := .int v_at_68) (C := RX9) (T := TX9) (N := 38) hx hb hts iX9 hown hK hP 0 rfl rfl 15 (by decide) k106 (fun _ h9 => h9) rfl dX9_step_155 ?_
                  refine lv_iconst (v := 1) hx hb dX9_step_158 (by decide) ?_
                  refine lv_iadd hx hb dX9_step_159 ?_
                  refine va_put (D := D) (ci := 9) (v := .int (v_at_68 + (1 : Int32))) (ty := .int) (C := RX9) (T := TX9) (N := 38) hx hb hts iX9 tyX9 tyX9_ok nmX9 hown hK hP hD hS 0 rfl rfl 15 (by decide) k106 (fun _ h9 => h9) rfl (by decide +kernel) rfl rfl (Nat.le_of_ble_eq_true rfl) dX9_step_160 (fun H locs hP hD hS => ?_)
                  have hP : va_P D vwCl [(h0, .inr (9, [oh0_0, .ref h0_text, .int v_typed, oh0_3, oh0_4, oh0_5, oh0_6, oh0_7, oh0_8, oh0_9, oh0_10, oh0_11, oh0_12, oh0_13, oh0_14, .int (v_at_68 + (1 : Int32)), .int v_at_e0, .int v_sort, .int (0 : Int32), oh0_19, oh0_20, oh0_21, oh0_22, oh0_23, oh0_24, oh0_25, oh0_26, oh0_27, oh0_28, oh0_29, oh0_30, oh0_31, oh0_32, oh0_33, oh0_34, oh0_35, oh0_36, oh0_37])), (h0_text, .inl (cy 0, 500, .inl v_text))] H := hP
                  have hD : va_D A [(h0, .inr (9, [oh0_0, .ref h0_text, .int v_typed, oh0_3, oh0_4, oh0_5, oh0_6, oh0_7, oh0_8, oh0_9, oh0_10, oh0_11, oh0_12, oh0_13, oh0_14, .int (v_at_68 + (1 : Int32)), .int v_at_e0, .int v_sort, .int (0 : Int32), oh0_19, oh0_20, oh0_21, oh0_22, oh0_23, oh0_24, oh0_25, oh0_26, oh0_27, oh0_28, oh0_29, oh0_30, oh0_31, oh0_32, oh0_33, oh0_34, oh0_35, oh0_36, oh0_37])), (h0_text, .inl (cy 0, 500, .inl v_text))] := hD
                  refine lv_goto (tgt := 68) hx hb dX9_step_163 (by decide) ?_
                  exact ih68 s0_116 (999999 : Int32) (v_at_68 + (1 : Int32)) e2_68 e3_68 v_at_e68 _ _ _ hM hP hD hS (lv_sub hl [2, 1, 0] rfl) K
                · have hM := g_neg c132 hM
                  refine lv_bipush (v := 27) hx hb dX9_step_135 (by decide) ?_
                  refine lv_iload_n hx hb dX9_step_137 rfl (lv_at hl 2 rfl) ?_
                  refine lv_imul hx hb dX9_step_138 ?_
                  refine lv_aload_n hx hb dX9_step_139 rfl (lv_at hl 1 rfl) ?_
                  obtain ⟨r140, hc140, hM⟩ := ob1_some hM
                  refine cl_vi (As := []) (rest := [.int ((27 : Int32) * x3_68)]) (ci := 9) (q0 := 0) (wr := []) (ws2 := [(h0, .inr (9, [oh0_0, .ref h0_text, .int v_typed, oh0_3, oh0_4, oh0_5, oh0_6, oh0_7, oh0_8, oh0_9, oh0_10, oh0_11, oh0_12, oh0_13, oh0_14, .int v_at_68, .int v_at_e0, .int v_sort, .int (0 : Int32), oh0_19, oh0_20, oh0_21, oh0_22, oh0_23, oh0_24, oh0_25, oh0_26, oh0_27, oh0_28, oh0_29, oh0_30, oh0_31, oh0_32, oh0_33, oh0_34, oh0_35, oh0_36, oh0_37])), (h0_text, .inl (cy 0, 500, .inl v_text))]) (isC := [0, 1]) (isR := []) (pm := [0, 1]) hx hb hml hown hts (c9_here l D cy N h0 h0_text oh0_0 oh0_3 oh0_4 oh0_5 oh0_6 oh0_7 oh0_8 oh0_9 oh0_10 oh0_11 oh0_12 oh0_13 oh0_14 (.int v_at_e0) (.int v_sort) (.int (0 : Int32)) oh0_19 oh0_20 oh0_21 oh0_22 oh0_23 oh0_24 oh0_25 oh0_26 oh0_27 oh0_28 oh0_29 oh0_30 oh0_31 oh0_32 oh0_33 oh0_34 oh0_35 oh0_36 oh0_37 v_typed v_at_68 v_text r140 hc140) (cwV 0 hts gX9_step_X9_here rfl rfl rfl (by decide +kernel) ⟨Nat.le_of_ble_eq_true rfl, Nat.le_of_ble_eq_true rfl⟩) hK hP hD hS hA rfl rfl rfl rfl rfl (by decide) rfl rfl rfl hl.1 (Nat.le_of_ble_eq_true rfl) dX9_step_140 ⟨Nat.zero_le _, Nat.zero_le _⟩ rfl rfl (fun H locs hP hD hS => ?_)
                  refine lv_iadd hx hb dX9_step_143 ?_
                  refine lv_bipush (v := 96) hx hb dX9_step_144 (by decide) ?_
                  refine lv_isub hx hb dX9_step_146 ?_
                  refine lv_goto (tgt := 152) hx hb dX9_step_147 (by decide) ?_
                  refine lv_istore_n (lv' := [(3, .int ((((27 : Int32) * x3_68) + r140) - (96 : Int32))), (2, .int s0_116), (0, .ref h0), (4, .int (v_at_68 - v_at_e0))]) hx hb dX9_step_152 rfl hl (by decide) rfl (fun ls hl => ?_)
                  refine lv_aload_n hx hb dX9_step_153 rfl (lv_at hl 2 rfl) ?_
                  refine lv_dup hx hb dX9_step_154 rfl ?_
                  refine va_get (D := D) (ci := 9) (v := .int v_at_68) (C := RX9) (T := TX9) (N := 38) hx hb hts iX9 hown hK hP 0 rfl rfl 15 (by decide) k106 (fun _ h9 => h9) rfl dX9_step_155 ?_
                  refine lv_iconst (v := 1) hx hb dX9_step_158 (by decide) ?_
                  refine lv_iadd hx hb dX9_step_159 ?_
                  refine va_put (D := D) (ci := 9) (v := .int (v_at_68 + (1 : Int32))) (ty := .int) (C := RX9) (T := TX9) (N := 38) hx hb hts iX9 tyX9 tyX9_ok nmX9 hown hK hP hD hS 0 rfl rfl 15 (by decide) k106 (fun _ h9 => h9) rfl (by decide +kernel) rfl rfl (Nat.le_of_ble_eq_true rfl) dX9_step_160 (fun H locs hP hD hS => ?_)
                  have hP : va_P D vwCl [(h0, .inr (9, [oh0_0, .ref h0_text, .int v_typed, oh0_3, oh0_4, oh0_5, oh0_6, oh0_7, oh0_8, oh0_9, oh0_10, oh0_11, oh0_12, oh0_13, oh0_14, .int (v_at_68 + (1 : Int32)), .int v_at_e0, .int v_sort, .int (0 : Int32), oh0_19, oh0_20, oh0_21, oh0_22, oh0_23, oh0_24, oh0_25, oh0_26, oh0_27, oh0_28, oh0_29, oh0_30, oh0_31, oh0_32, oh0_33, oh0_34, oh0_35, oh0_36, oh0_37])), (h0_text, .inl (cy 0, 500, .inl v_text))] H := hP
                  have hD : va_D A [(h0, .inr (9, [oh0_0, .ref h0_text, .int v_typed, oh0_3, oh0_4, oh0_5, oh0_6, oh0_7, oh0_8, oh0_9, oh0_10, oh0_11, oh0_12, oh0_13, oh0_14, .int (v_at_68 + (1 : Int32)), .int v_at_e0, .int v_sort, .int (0 : Int32), oh0_19, oh0_20, oh0_21, oh0_22, oh0_23, oh0_24, oh0_25, oh0_26, oh0_27, oh0_28, oh0_29, oh0_30, oh0_31, oh0_32, oh0_33, oh0_34, oh0_35, oh0_36, oh0_37])), (h0_text, .inl (cy 0, 500, .inl v_text))] := hD
                  refine lv_goto (tgt := 68) hx hb dX9_step_163 (by decide) ?_
                  exact ih68 s0_116 ((((27 : Int32) * x3_68) + r140) - (96 : Int32)) (v_at_68 + (1 : Int32)) e2_68 e3_68 v_at_e68 _ _ _ hM hP hD hS (lv_sub hl [2, 1, 0] rfl) K
              · have hM := g_neg c121 hM
                refine lv_iload_n hx hb dX9_step_124 rfl (lv_at hl 2 rfl) ?_
                refine lv_goto (tgt := 152) hx hb dX9_step_125 (by decide) ?_
                refine lv_istore_n (lv' := [(3, .int x3_68), (2, .int s0_116), (0, .ref h0), (4, .int (v_at_68 - v_at_e0))]) hx hb dX9_step_152 rfl hl (by decide) rfl (fun ls hl => ?_)
                refine lv_aload_n hx hb dX9_step_153 rfl (lv_at hl 2 rfl) ?_
                refine lv_dup hx hb dX9_step_154 rfl ?_
                refine va_get (D := D) (ci := 9) (v := .int v_at_68) (C := RX9) (T := TX9) (N := 38) hx hb hts iX9 hown hK hP 0 rfl rfl 15 (by decide) k106 (fun _ h9 => h9) rfl dX9_step_155 ?_
                refine lv_iconst (v := 1) hx hb dX9_step_158 (by decide) ?_
                refine lv_iadd hx hb dX9_step_159 ?_
                refine va_put (D := D) (ci := 9) (v := .int (v_at_68 + (1 : Int32))) (ty := .int) (C := RX9) (T := TX9) (N := 38) hx hb hts iX9 tyX9 tyX9_ok nmX9 hown hK hP hD hS 0 rfl rfl 15 (by decide) k106 (fun _ h9 => h9) rfl (by decide +kernel) rfl rfl (Nat.le_of_ble_eq_true rfl) dX9_step_160 (fun H locs hP hD hS => ?_)
                have hP : va_P D vwCl [(h0, .inr (9, [oh0_0, .ref h0_text, .int v_typed, oh0_3, oh0_4, oh0_5, oh0_6, oh0_7, oh0_8, oh0_9, oh0_10, oh0_11, oh0_12, oh0_13, oh0_14, .int (v_at_68 + (1 : Int32)), .int v_at_e0, .int v_sort, .int (0 : Int32), oh0_19, oh0_20, oh0_21, oh0_22, oh0_23, oh0_24, oh0_25, oh0_26, oh0_27, oh0_28, oh0_29, oh0_30, oh0_31, oh0_32, oh0_33, oh0_34, oh0_35, oh0_36, oh0_37])), (h0_text, .inl (cy 0, 500, .inl v_text))] H := hP
                have hD : va_D A [(h0, .inr (9, [oh0_0, .ref h0_text, .int v_typed, oh0_3, oh0_4, oh0_5, oh0_6, oh0_7, oh0_8, oh0_9, oh0_10, oh0_11, oh0_12, oh0_13, oh0_14, .int (v_at_68 + (1 : Int32)), .int v_at_e0, .int v_sort, .int (0 : Int32), oh0_19, oh0_20, oh0_21, oh0_22, oh0_23, oh0_24, oh0_25, oh0_26, oh0_27, oh0_28, oh0_29, oh0_30, oh0_31, oh0_32, oh0_33, oh0_34, oh0_35, oh0_36, oh0_37])), (h0_text, .inl (cy 0, 500, .inl v_text))] := hD
                refine lv_goto (tgt := 68) hx hb dX9_step_163 (by decide) ?_
                exact ih68 s0_116 x3_68 (v_at_68 + (1 : Int32)) e2_68 e3_68 v_at_e68 _ _ _ hM hP hD hS (lv_sub hl [2, 1, 0] rfl) K
            refine lv_icmp_ge (tgt := 115) hx hb dX9_step_97 (by decide) (fun c97 => ?_) (fun c97 => ?_)
            · have hM := g_pos c97 hM
              refine lv_iload_n hx hb dX9_step_115 rfl (lv_at hl 2 rfl) ?_
              exact K116 x2_68 _ _ _ hM hP hD hS (lv_sub hl [1, 3, 0] rfl)
            · have hM := g_neg c97 hM
              refine lv_bipush (v := 27) hx hb dX9_step_100 (by decide) ?_
              refine lv_iload_n hx hb dX9_step_102 rfl (lv_at hl 2 rfl) ?_
              refine lv_imul hx hb dX9_step_103 ?_
              refine lv_aload_n hx hb dX9_step_104 rfl (lv_at hl 1 rfl) ?_
              obtain ⟨r105, hc105, hM⟩ := ob1_some hM
              refine cl_vi (As := []) (rest := [.int ((27 : Int32) * x2_68)]) (ci := 9) (q0 := 0) (wr := []) (ws2 := [(h0, .inr (9, [oh0_0, .ref h0_text, .int v_typed, oh0_3, oh0_4, oh0_5, oh0_6, oh0_7, oh0_8, oh0_9, oh0_10, oh0_11, oh0_12, oh0_13, oh0_14, .int v_at_68, .int v_at_e0, .int v_sort, .int (0 : Int32), oh0_19, oh0_20, oh0_21, oh0_22, oh0_23, oh0_24, oh0_25, oh0_26, oh0_27, oh0_28, oh0_29, oh0_30, oh0_31, oh0_32, oh0_33, oh0_34, oh0_35, oh0_36, oh0_37])), (h0_text, .inl (cy 0, 500, .inl v_text))]) (isC := [0, 1]) (isR := []) (pm := [0, 1]) hx hb hml hown hts (c9_here l D cy N h0 h0_text oh0_0 oh0_3 oh0_4 oh0_5 oh0_6 oh0_7 oh0_8 oh0_9 oh0_10 oh0_11 oh0_12 oh0_13 oh0_14 (.int v_at_e0) (.int v_sort) (.int (0 : Int32)) oh0_19 oh0_20 oh0_21 oh0_22 oh0_23 oh0_24 oh0_25 oh0_26 oh0_27 oh0_28 oh0_29 oh0_30 oh0_31 oh0_32 oh0_33 oh0_34 oh0_35 oh0_36 oh0_37 v_typed v_at_68 v_text r105 hc105) (cwV 0 hts gX9_step_X9_here rfl rfl rfl (by decide +kernel) ⟨Nat.le_of_ble_eq_true rfl, Nat.le_of_ble_eq_true rfl⟩) hK hP hD hS hA rfl rfl rfl rfl rfl (by decide) rfl rfl rfl hl.1 (Nat.le_of_ble_eq_true rfl) dX9_step_105 ⟨Nat.zero_le _, Nat.zero_le _⟩ rfl rfl (fun H locs hP hD hS => ?_)
              refine lv_iadd hx hb dX9_step_108 ?_
              refine lv_bipush (v := 96) hx hb dX9_step_109 (by decide) ?_
              refine lv_isub hx hb dX9_step_111 ?_
              refine lv_goto (tgt := 116) hx hb dX9_step_112 (by decide) ?_
              exact K116 ((((27 : Int32) * x2_68) + r105) - (96 : Int32)) _ _ _ hM hP hD hS (lv_sub hl [1, 3, 0] rfl)
      obtain ⟨e2_68, e3_68, v_at_e68, hL68, hM⟩ := ob3_some hM
      refine L68 N (0 : Int32) (0 : Int32) v_at_e0 e2_68 e3_68 v_at_e68 _ _ _ hL68 hP hD hS (lv_sub hl [3, 1, 0] rfl) ?_
      intro H locs ls hP hD hS hl
      refine lv_aload_n hx hb dX9_step_166 rfl (lv_at hl 0 rfl) ?_
      refine lv_iload_n hx hb dX9_step_167 rfl (lv_at hl 1 rfl) ?_
      refine lv_iload_n hx hb dX9_step_168 rfl (lv_at hl 2 rfl) ?_
      obtain ⟨r169, hc169, hM⟩ := ob1_some hM
      refine cl_si (As := [.int e2_68, .int e3_68]) (rest := [.ref h0]) (wr := [(h0, .inr (9, [oh0_0, .ref h0_text, .int v_typed, oh0_3, oh0_4, oh0_5, oh0_6, oh0_7, oh0_8, oh0_9, oh0_10, oh0_11, oh0_12, oh0_13, oh0_14, .int v_at_e68, .int v_at_e0, .int v_sort, .int (0 : Int32), oh0_19, oh0_20, oh0_21, oh0_22, oh0_23, oh0_24, oh0_25, oh0_26, oh0_27, oh0_28, oh0_29, oh0_30, oh0_31, oh0_32, oh0_33, oh0_34, oh0_35, oh0_36, oh0_37])), (h0_text, .inl (cy 0, 500, .inl v_text))]) (ws2 := [(h0, .inr (9, [oh0_0, .ref h0_text, .int v_typed, oh0_3, oh0_4, oh0_5, oh0_6, oh0_7, oh0_8, oh0_9, oh0_10, oh0_11, oh0_12, oh0_13, oh0_14, .int v_at_e68, .int v_at_e0, .int v_sort, .int (0 : Int32), oh0_19, oh0_20, oh0_21, oh0_22, oh0_23, oh0_24, oh0_25, oh0_26, oh0_27, oh0_28, oh0_29, oh0_30, oh0_31, oh0_32, oh0_33, oh0_34, oh0_35, oh0_36, oh0_37])), (h0_text, .inl (cy 0, 500, .inl v_text))]) (isC := []) (isR := [0, 1]) (pm := [0, 1]) hx hb hml hown hts (c9_meaning l D cy N e2_68 e3_68 r169 hc169) (va_cwS 2 hts gX9_step_X9_meaning rfl rfl rfl (by decide +kernel) ⟨Nat.le_of_ble_eq_true rfl, Nat.le_of_ble_eq_true rfl⟩) hK hP hD hS hA rfl rfl rfl (by decide) rfl rfl rfl hl.1 (Nat.le_of_ble_eq_true rfl) dX9_step_169 ⟨Nat.zero_le _, Nat.zero_le _⟩ rfl rfl (fun H locs hP hD hS => ?_)
      refine va_put (D := D) (ci := 9) (v := .int r169) (ty := .int) (C := RX9) (T := TX9) (N := 38) hx hb hts iX9 tyX9 tyX9_ok nmX9 hown hK hP hD hS 0 rfl rfl 17 (by decide) k120 (fun _ h9 => h9) rfl (by decide +kernel) rfl rfl (Nat.le_of_ble_eq_true rfl) dX9_step_172 (fun H locs hP hD hS => ?_)
      have hP : va_P D vwCl [(h0, .inr (9, [oh0_0, .ref h0_text, .int v_typed, oh0_3, oh0_4, oh0_5, oh0_6, oh0_7, oh0_8, oh0_9, oh0_10, oh0_11, oh0_12, oh0_13, oh0_14, .int v_at_e68, .int v_at_e0, .int r169, .int (0 : Int32), oh0_19, oh0_20, oh0_21, oh0_22, oh0_23, oh0_24, oh0_25, oh0_26, oh0_27, oh0_28, oh0_29, oh0_30, oh0_31, oh0_32, oh0_33, oh0_34, oh0_35, oh0_36, oh0_37])), (h0_text, .inl (cy 0, 500, .inl v_text))] H := hP
      have hD : va_D A [(h0, .inr (9, [oh0_0, .ref h0_text, .int v_typed, oh0_3, oh0_4, oh0_5, oh0_6, oh0_7, oh0_8, oh0_9, oh0_10, oh0_11, oh0_12, oh0_13, oh0_14, .int v_at_e68, .int v_at_e0, .int r169, .int (0 : Int32), oh0_19, oh0_20, oh0_21, oh0_22, oh0_23, oh0_24, oh0_25, oh0_26, oh0_27, oh0_28, oh0_29, oh0_30, oh0_31, oh0_32, oh0_33, oh0_34, oh0_35, oh0_36, oh0_37])), (h0_text, .inl (cy 0, 500, .inl v_text))] := hD
      refine lv_goto (tgt := 290) hx hb dX9_step_175 (by decide) ?_
      obtain ⟨rfl, rfl, rfl, rfl⟩ := si4 hM
      exact hret _ _ _ _ dX9_step_290 hP hD hS
  · have hM := g_neg c41 hM
    refine lv_aload_n hx hb dX9_step_44 rfl (lv_at hl 1 rfl) ?_
    refine lv_bipush (v := 8) hx hb dX9_step_45 (by decide) ?_
    refine va_put (D := D) (ci := 9) (v := .int (8 : Int32)) (ty := .int) (C := RX9) (T := TX9) (N := 38) hx hb hts iX9 tyX9 tyX9_ok nmX9 hown hK hP hD hS 0 rfl rfl 17 (by decide) k120 (fun _ h9 => h9) rfl (by decide +kernel) rfl rfl (Nat.le_of_ble_eq_true rfl) dX9_step_47 (fun H locs hP hD hS => ?_)
    have hP : va_P D vwCl [(h0, .inr (9, [oh0_0, .ref h0_text, .int v_typed, oh0_3, oh0_4, oh0_5, oh0_6, oh0_7, oh0_8, oh0_9, oh0_10, oh0_11, oh0_12, oh0_13, oh0_14, .int v_at_e0, .int v_at_e0, .int (8 : Int32), .int (0 : Int32), oh0_19, oh0_20, oh0_21, oh0_22, oh0_23, oh0_24, oh0_25, oh0_26, oh0_27, oh0_28, oh0_29, oh0_30, oh0_31, oh0_32, oh0_33, oh0_34, oh0_35, oh0_36, oh0_37])), (h0_text, .inl (cy 0, 500, .inl v_text))] H := hP
    have hD : va_D A [(h0, .inr (9, [oh0_0, .ref h0_text, .int v_typed, oh0_3, oh0_4, oh0_5, oh0_6, oh0_7, oh0_8, oh0_9, oh0_10, oh0_11, oh0_12, oh0_13, oh0_14, .int v_at_e0, .int v_at_e0, .int (8 : Int32), .int (0 : Int32), oh0_19, oh0_20, oh0_21, oh0_22, oh0_23, oh0_24, oh0_25, oh0_26, oh0_27, oh0_28, oh0_29, oh0_30, oh0_31, oh0_32, oh0_33, oh0_34, oh0_35, oh0_36, oh0_37])), (h0_text, .inl (cy 0, 500, .inl v_text))] := hD
    refine lv_goto (tgt := 290) hx hb dX9_step_50 (by decide) ?_
    obtain ⟨rfl, rfl, rfl, rfl⟩ := si4 hM
    exact hret _ _ _ _ dX9_step_290 hP hD hS
