-- ===== X9_in in (III)Z =====
abbrev r9_in : Room := { frames := 0, cells := 0, slots := 0, locals := 0 }
def f9_in (N : Nat) (p1 : Int32) (p2 : Int32) (p3 : Int32) : Option Int32 :=
  if p1 < p2 then (some (0 : Int32)) else (if p3 < p1 then (some (0 : Int32)) else (some (1 : Int32)))
set_option maxHeartbeats 4000000 in
set_option maxRecDepth 100000 in
theorem c9_in (l : Launch) (D : va_G) (cy : Nat → ClassId) (N : Nat) (p1 : Int32) (p2 : Int32) (p3 : Int32) (r : Int32) (hM : f9_in N p1 p2 p3 = some r) (sz : Nat) : CTi l yX9_in wsX9_in r9_in [.int p1, .int p2, .int p3] D cy sz [] [] r := by
  unfold f9_in at hM
  refine ct_oi (cc := cX9_in) (maxL := 3) (ty := .boolean) (by decide +kernel) rfl (Nat.le_of_ble_eq_true rfl) (lv0 := [(0, .int p1), (1, .int p2), (2, .int p3)]) rfl ?_
  intro p e s m args below meth c A Q ls hx hb hts hown hml hK hP hD hS hA hret hl
  have hown : s.vm.findClass RX9 = some m.cls := hown
  refine lv_iload_n hx hb dX9_in_0 rfl (lv_at hl 0 rfl) ?_
  refine lv_iload_n hx hb dX9_in_1 rfl (lv_at hl 1 rfl) ?_
  refine lv_icmp_lt (tgt := 14) hx hb dX9_in_2 (by decide) (fun c2 => ?_) (fun c2 => ?_)
  · have hM := g_pos c2 hM
    refine lv_iconst (v := 0) hx hb dX9_in_14 (by decide) ?_
    obtain rfl := si1 hM
    exact hret _ _ _ _ _ dX9_in_15 rfl rfl hP hD hS
  · have hM := g_neg c2 hM
    refine lv_iload_n hx hb dX9_in_5 rfl (lv_at hl 0 rfl) ?_
    refine lv_iload_n hx hb dX9_in_6 rfl (lv_at hl 2 rfl) ?_
    refine lv_icmp_gt (tgt := 14) hx hb dX9_in_7 (by decide) (fun c7 => ?_) (fun c7 => ?_)
    · have hM := g_pos c7 hM
      refine lv_iconst (v := 0) hx hb dX9_in_14 (by decide) ?_
      obtain rfl := si1 hM
      exact hret _ _ _ _ _ dX9_in_15 rfl rfl hP hD hS
    · have hM := g_neg c7 hM
      refine lv_iconst (v := 1) hx hb dX9_in_10 (by decide) ?_
      refine lv_goto (tgt := 15) hx hb dX9_in_11 (by decide) ?_
      obtain rfl := si1 hM
      exact hret _ _ _ _ _ dX9_in_15 rfl rfl hP hD hS

-- ===== X9_here here ()I =====
abbrev r9_here : Room := { frames := 0, cells := 0, slots := 0, locals := 0 }
def f9_here (N : Nat) (v_typed : Int32) (v_at : Int32) (v_text : Nat → Int32) : Option Int32 :=
  if v_typed ≤ v_at then (some (-1 : Int32)) else (gi v_at 500 (some ((v_text v_at.toNatClampNeg) &&& (255 : Int32))))
set_option maxHeartbeats 4000000 in
set_option maxRecDepth 100000 in
theorem c9_here (l : Launch) (D : va_G) (cy : Nat → ClassId) (N : Nat) (h0 h0_text : Nat) (oh0_0 oh0_3 oh0_4 oh0_5 oh0_6 oh0_7 oh0_8 oh0_9 oh0_10 oh0_11 oh0_12 oh0_13 oh0_14 oh0_16 oh0_17 oh0_18 oh0_19 oh0_20 oh0_21 oh0_22 oh0_23 oh0_24 oh0_25 oh0_26 oh0_27 oh0_28 oh0_29 oh0_30 oh0_31 oh0_32 oh0_33 oh0_34 oh0_35 oh0_36 oh0_37 : Value) (v_typed : Int32) (v_at : Int32) (v_text : Nat → Int32) (r : Int32) (hM : f9_here N v_typed v_at v_text = some r) (sz : Nat) : CTi l yX9_here wsX9_here r9_here [.ref h0] D cy sz [(h0, .inr (9, [oh0_0, .ref h0_text, .int v_typed, oh0_3, oh0_4, oh0_5, oh0_6, oh0_7, oh0_8, oh0_9, oh0_10, oh0_11, oh0_12, oh0_13, oh0_14, .int v_at, oh0_16, oh0_17, oh0_18, oh0_19, oh0_20, oh0_21, oh0_22, oh0_23, oh0_24, oh0_25, oh0_26, oh0_27, oh0_28, oh0_29, oh0_30, oh0_31, oh0_32, oh0_33, oh0_34, oh0_35, oh0_36, oh0_37])), (h0_text, .inl (cy 0, 500, .inl v_text))] [(h0, .inr (9, [oh0_0, .ref h0_text, .int v_typed, oh0_3, oh0_4, oh0_5, oh0_6, oh0_7, oh0_8, oh0_9, oh0_10, oh0_11, oh0_12, oh0_13, oh0_14, .int v_at, oh0_16, oh0_17, oh0_18, oh0_19, oh0_20, oh0_21, oh0_22, oh0_23, oh0_24, oh0_25, oh0_26, oh0_27, oh0_28, oh0_29, oh0_30, oh0_31, oh0_32, oh0_33, oh0_34, oh0_35, oh0_36, oh0_37])), (h0_text, .inl (cy 0, 500, .inl v_text))] r := by
  unfold f9_here at hM
  refine ct_oi (cc := cX9_here) (maxL := 1) (ty := .int) (by decide +kernel) rfl (Nat.le_of_ble_eq_true rfl) (lv0 := [(0, .ref h0)]) rfl ?_
  intro p e s m args below meth c A Q ls hx hb hts hown hml hK hP hD hS hA hret hl
  have hown : s.vm.findClass RX9 = some m.cls := hown
  have k106 := hts (.fieldLink RX9 106 "CaveYearsModel" "at" "I") (List.mem_of_getElem? (i := 1) rfl)
  have iX9 := (fun w h => (List.mem_cons_of_mem _ (List.mem_append_right _ h)) : ∀ w ∈ wsX90, w ∈ wsX9_here)
  have k100 := hts (.fieldLink RX9 100 "CaveYearsModel" "typed" "I") (List.mem_of_getElem? (i := 2) rfl)
  have k7 := hts (.fieldLink RX9 7 "CaveYearsModel" "text" "[B") (List.mem_of_getElem? (i := 3) rfl)
  refine lv_aload_n hx hb dX9_here_0 rfl (lv_at hl 0 rfl) ?_
  refine va_get (D := D) (ci := 9) (v := .int v_at) (C := RX9) (T := TX9) (N := 38) hx hb hts iX9 hown hK hP 0 rfl rfl 15 (by decide) k106 (fun _ h9 => h9) rfl dX9_here_1 ?_
  refine lv_aload_n hx hb dX9_here_4 rfl (lv_at hl 0 rfl) ?_
  refine va_get (D := D) (ci := 9) (v := .int v_typed) (C := RX9) (T := TX9) (N := 38) hx hb hts iX9 hown hK hP 0 rfl rfl 2 (by decide) k100 (fun _ h9 => h9) rfl dX9_here_5 ?_
  refine lv_icmp_ge (tgt := 27) hx hb dX9_here_8 (by decide) (fun c8 => ?_) (fun c8 => ?_)
  · have hM := g_pos c8 hM
    refine lv_iconst (v := -1) hx hb dX9_here_27 (by decide) ?_
    obtain rfl := si1 hM
    exact hret _ _ _ _ _ dX9_here_28 rfl rfl hP hD hS
  · have hM := g_neg c8 hM
    refine lv_aload_n hx hb dX9_here_11 rfl (lv_at hl 0 rfl) ?_
    refine va_get (D := D) (ci := 9) (v := .ref h0_text) (C := RX9) (T := TX9) (N := 38) hx hb hts iX9 hown hK hP 0 rfl rfl 1 (by decide) k7 (fun _ h9 => h9) rfl dX9_here_12 ?_
    refine lv_aload_n hx hb dX9_here_15 rfl (lv_at hl 0 rfl) ?_
    refine va_get (D := D) (ci := 9) (v := .int v_at) (C := RX9) (T := TX9) (N := 38) hx hb hts iX9 hown hK hP 0 rfl rfl 15 (by decide) k106 (fun _ h9 => h9) rfl dX9_here_16 ?_
    obtain ⟨h19, hM⟩ := gi_some hM
    refine va_bald hx hb hK hP 1 0 rfl rfl h19 dX9_here_19 ?_
    refine lv_sipush (v := 255) hx hb dX9_here_20 (by decide) ?_
    refine lv_iand hx hb dX9_here_23 ?_
    refine lv_goto (tgt := 28) hx hb dX9_here_24 (by decide) ?_
    obtain rfl := si1 hM
    exact hret _ _ _ _ _ dX9_here_28 rfl rfl hP hD hS

-- ===== X9_meaning meaning (II)I =====
abbrev r9_meaning : Room := { frames := 0, cells := 0, slots := 0, locals := 0 }
def f9_meaning (N : Nat) (p1 : Int32) (p2 : Int32) : Option Int32 :=
  if p2 ≤ (0 : Int32) then (if p1 = (16819 : Int32) then (some (2 : Int32)) else (if p1 = (316163 : Int32) then (some (0 : Int32)) else (if p1 = (7219835 : Int32) then (some (1 : Int32)) else (if p1 = (232608281 : Int32) then (some (3 : Int32)) else (if p1 = (335098125 : Int32) then (some (5 : Int32)) else (some (9 : Int32))))))) else (if p1 = (136978133 : Int32) then (if p2 = (533 : Int32) then (some (4 : Int32)) else (some (9 : Int32))) else (some (9 : Int32)))
set_option maxHeartbeats 4000000 in
set_option maxRecDepth 100000 in
theorem c9_meaning (l : Launch) (D : va_G) (cy : Nat → ClassId) (N : Nat) (p1 : Int32) (p2 : Int32) (r : Int32) (hM : f9_meaning N p1 p2 = some r) (sz : Nat) : CTi l yX9_meaning wsX9_meaning r9_meaning [.int p1, .int p2] D cy sz [] [] r := by
  unfold f9_meaning at hM
  refine ct_oi (cc := cX9_meaning) (maxL := 2) (ty := .int) (by decide +kernel) rfl (Nat.le_of_ble_eq_true rfl) (lv0 := [(0, .int p1), (1, .int p2)]) rfl ?_
  intro p e s m args below meth c A Q ls hx hb hts hown hml hK hP hD hS hA hret hl
  have hown : s.vm.findClass RX9 = some m.cls := hown
  have k109 := hts (.constant RX9 109 (136978133)) (List.mem_of_getElem? (i := 1) rfl)
  refine lv_iload_n hx hb dX9_meaning_0 rfl (lv_at hl 1 rfl) ?_
  refine lv_if_le (tgt := 24) hx hb dX9_meaning_1 (by decide) (fun c1 => ?_) (fun c1 => ?_)
  · have hM := g_pos c1 hM
    refine lv_iload_n hx hb dX9_meaning_24 rfl (lv_at hl 0 rfl) ?_
    rcases Classical.em (p1 = (16819 : Int32)) with c25_16819 | c25_16819
    · have hM := g_pos c25_16819 hM
      refine lv_lookup (off := 55) (tgt := 80) hx hb dX9_meaning_25 (by decide) (by rw [c25_16819]; decide) (by decide) ?_
      refine lv_iconst (v := 2) hx hb dX9_meaning_80 (by decide) ?_
      obtain rfl := si1 hM
      exact hret _ _ _ _ _ dX9_meaning_81 rfl rfl hP hD hS
    · have hM := g_neg c25_16819 hM
      rcases Classical.em (p1 = (316163 : Int32)) with c25_316163 | c25_316163
      · have hM := g_pos c25_316163 hM
        refine lv_lookup (off := 51) (tgt := 76) hx hb dX9_meaning_25 (by decide) (by rw [c25_316163]; decide) (by decide) ?_
        refine lv_iconst (v := 0) hx hb dX9_meaning_76 (by decide) ?_
        obtain rfl := si1 hM
        exact hret _ _ _ _ _ dX9_meaning_77 rfl rfl hP hD hS
      · have hM := g_neg c25_316163 hM
        rcases Classical.em (p1 = (7219835 : Int32)) with c25_7219835 | c25_7219835
        · have hM := g_pos c25_7219835 hM
          refine lv_lookup (off := 53) (tgt := 78) hx hb dX9_meaning_25 (by decide) (by rw [c25_7219835]; decide) (by decide) ?_
          refine lv_iconst (v := 1) hx hb dX9_meaning_78 (by decide) ?_
          obtain rfl := si1 hM
          exact hret _ _ _ _ _ dX9_meaning_79 rfl rfl hP hD hS
        · have hM := g_neg c25_7219835 hM
          rcases Classical.em (p1 = (232608281 : Int32)) with c25_232608281 | c25_232608281
          · have hM := g_pos c25_232608281 hM
            refine lv_lookup (off := 57) (tgt := 82) hx hb dX9_meaning_25 (by decide) (by rw [c25_232608281]; decide) (by decide) ?_
            refine lv_iconst (v := 3) hx hb dX9_meaning_82 (by decide) ?_
            obtain rfl := si1 hM
            exact hret _ _ _ _ _ dX9_meaning_83 rfl rfl hP hD hS
          · have hM := g_neg c25_232608281 hM
            rcases Classical.em (p1 = (335098125 : Int32)) with c25_335098125 | c25_335098125
            · have hM := g_pos c25_335098125 hM
              refine lv_lookup (off := 59) (tgt := 84) hx hb dX9_meaning_25 (by decide) (by rw [c25_335098125]; decide) (by decide) ?_
              refine lv_iconst (v := 5) hx hb dX9_meaning_84 (by decide) ?_
              obtain rfl := si1 hM
              exact hret _ _ _ _ _ dX9_meaning_85 rfl rfl hP hD hS
            · have hM := g_neg c25_335098125 hM
              have n25_16819 : ¬ 16819 = p1.toInt := fun q => c25_16819 (Int32.toInt_inj.mp (q.symm.trans (by decide)))
              have n25_316163 : ¬ 316163 = p1.toInt := fun q => c25_316163 (Int32.toInt_inj.mp (q.symm.trans (by decide)))
              have n25_7219835 : ¬ 7219835 = p1.toInt := fun q => c25_7219835 (Int32.toInt_inj.mp (q.symm.trans (by decide)))
              have n25_232608281 : ¬ 232608281 = p1.toInt := fun q => c25_232608281 (Int32.toInt_inj.mp (q.symm.trans (by decide)))
              have n25_335098125 : ¬ 335098125 = p1.toInt := fun q => c25_335098125 (Int32.toInt_inj.mp (q.symm.trans (by decide)))
              refine lv_lookup (tgt := 86) (off := 61) hx hb dX9_meaning_25 (by decide) (by simp [Op.lookupswitch.offset, n25_16819, n25_316163, n25_7219835, n25_232608281, n25_335098125]) (by decide) ?_
              refine lv_bipush (v := 9) hx hb dX9_meaning_86 (by decide) ?_
              obtain rfl := si1 hM
              exact hret _ _ _ _ _ dX9_meaning_88 rfl rfl hP hD hS
  · have hM := g_neg c1 hM
    refine lv_iload_n hx hb dX9_meaning_4 rfl (lv_at hl 0 rfl) ?_
    refine lv_ldc (v := 136978133) hx hb hown k109 dX9_meaning_5 ?_
    refine lv_icmp_ne (tgt := 21) hx hb dX9_meaning_7 (by decide) (fun c7 => ?_) (fun c7 => ?_)
    · have hM := g_neg c7 hM
      refine lv_bipush (v := 9) hx hb dX9_meaning_21 (by decide) ?_
      obtain rfl := si1 hM
      exact hret _ _ _ _ _ dX9_meaning_23 rfl rfl hP hD hS
    · have hM := g_pos c7 hM
      refine lv_iload_n hx hb dX9_meaning_10 rfl (lv_at hl 1 rfl) ?_
      refine lv_sipush (v := 533) hx hb dX9_meaning_11 (by decide) ?_
      refine lv_icmp_ne (tgt := 21) hx hb dX9_meaning_14 (by decide) (fun c14 => ?_) (fun c14 => ?_)
      · have hM := g_neg c14 hM
        refine lv_bipush (v := 9) hx hb dX9_meaning_21 (by decide) ?_
        obtain rfl := si1 hM
        exact hret _ _ _ _ _ dX9_meaning_23 rfl rfl hP hD hS
      · have hM := g_pos c14 hM
        refine lv_iconst (v := 4) hx hb dX9_meaning_17 (by decide) ?_
        refine lv_goto (tgt := 23) hx hb dX9_meaning_18 (by decide) ?_
        obtain rfl := si1 hM
        exact hret _ _ _ _ _ dX9_meaning_23 rfl rfl hP hD hS

-- ===== X9_step step ()V =====
abbrev r9_step : Room := { frames := 1, cells := 0, slots := 0, locals := 22 }
def f9_step_L0 (N : Nat) (v_typed : Int32) (v_text : Nat → Int32) : Nat → Int32 → Option Int32
  | 0, _ => none
  | n + 1, v_at_0 => ob1 (f9_here N v_typed v_at_0 v_text) fun r1 => if r1 = (32 : Int32) then ((f9_step_L0 N v_typed v_text n) (v_at_0 + (1 : Int32))) else (some v_at_0)
def f9_step_L189 (N : Nat) (v_typed : Int32) (v_text : Nat → Int32) (v_at_e0 : Int32) : Nat → Int32 → Int32 → Option (Int32 × Int32)
  | 0, _, _ => none
  | n + 1, v_at_189, v_value_189 => ob1 (f9_here N v_typed v_at_189 v_text) fun r190 => ob1 (f9_in N r190 (48 : Int32) (57 : Int32)) fun r197 => if r197 = (0 : Int32) then (some (v_at_189, v_value_189)) else (if (3 : Int32) ≤ (v_at_189 - v_at_e0) then ((f9_step_L189 N v_typed v_text v_at_e0 n) (v_at_189 + (1 : Int32)) (9999 : Int32)) else (ob1 (f9_here N v_typed v_at_189 v_text) fun r225 => (f9_step_L189 N v_typed v_text v_at_e0 n) (v_at_189 + (1 : Int32)) ((((10 : Int32) * v_value_189) + r225) - (48 : Int32))))
def f9_step_J116 (N : Nat) (v_typed : Int32) (v_text : Nat → Int32) (v_at_e0 : Int32) (x3_68 : Int32) (v_at_68 : Int32) (rec68 : Int32 → Int32 → Int32 → Option (Int32 × Int32 × Int32)) (s0_116 : Int32) : Option (Int32 × Int32 × Int32) :=
  if (6 : Int32) ≤ (v_at_68 - v_at_e0) then (if (8 : Int32) ≤ (v_at_68 - v_at_e0) then (rec68 s0_116 (999999 : Int32) (v_at_68 + (1 : Int32))) else (ob1 (f9_here N v_typed v_at_68 v_text) fun r140 => rec68 s0_116 ((((27 : Int32) * x3_68) + r140) - (96 : Int32)) (v_at_68 + (1 : Int32)))) else (rec68 s0_116 x3_68 (v_at_68 + (1 : Int32)))
def f9_step_L68 (N : Nat) (v_typed : Int32) (v_text : Nat → Int32) (v_at_e0 : Int32) : Nat → Int32 → Int32 → Int32 → Option (Int32 × Int32 × Int32)
  | 0, _, _, _ => none
  | n + 1, x2_68, x3_68, v_at_68 => ob1 (f9_here N v_typed v_at_68 v_text) fun r69 => ob1 (f9_in N r69 (97 : Int32) (122 : Int32)) fun r76 => if r76 = (0 : Int32) then (some (x2_68, x3_68, v_at_68)) else (if (6 : Int32) ≤ (v_at_68 - v_at_e0) then (f9_step_J116 N v_typed v_text v_at_e0 x3_68 v_at_68 (f9_step_L68 N v_typed v_text v_at_e0 n) x2_68) else (ob1 (f9_here N v_typed v_at_68 v_text) fun r105 => f9_step_J116 N v_typed v_text v_at_e0 x3_68 v_at_68 (f9_step_L68 N v_typed v_text v_at_e0 n) ((((27 : Int32) * x2_68) + r105) - (96 : Int32))))
def f9_step (N : Nat) (v_typed : Int32) (v_at : Int32) (v_start : Int32) (v_sort : Int32) (v_value : Int32) (v_text : Nat → Int32) : Option (Int32 × Int32 × Int32 × Int32) :=
  ob1 (f9_step_L0 N v_typed v_text N v_at) fun v_at_e0 => ob1 (f9_here N v_typed v_at_e0 v_text) fun r36 => if (0 : Int32) ≤ r36 then (ob1 (f9_in N r36 (97 : Int32) (122 : Int32)) fun r58 => if r58 = (0 : Int32) then (ob1 (f9_in N r36 (48 : Int32) (57 : Int32)) fun r183 => if r183 = (0 : Int32) then (if r36 = (59 : Int32) then (some ((v_at_e0 + (1 : Int32)), v_at_e0, (7 : Int32), (0 : Int32))) else (some ((v_at_e0 + (1 : Int32)), v_at_e0, (9 : Int32), (0 : Int32)))) else (ob2 (f9_step_L189 N v_typed v_text v_at_e0 N v_at_e0 (0 : Int32)) fun v_at_e189 v_value_e189 => some (v_at_e189, v_at_e0, (6 : Int32), v_value_e189))) else (ob3 (f9_step_L68 N v_typed v_text v_at_e0 N (0 : Int32) (0 : Int32) v_at_e0) fun e2_68 e3_68 v_at_e68 => ob1 (f9_meaning N e2_68 e3_68) fun r169 => some (v_at_e68, v_at_e0, r169, (0 : Int32)))) else (some (v_at_e0, v_at_e0, (8 : Int32), (0 : Int32)))
set_option maxHeartbeats 4000000 in
set_option maxRecDepth 100000 in
theorem c9_step (l : Launch) (D : va_G) (cy : Nat → ClassId) (N : Nat) (h0 h0_text : Nat) (oh0_0 oh0_3 oh0_4 oh0_5 oh0_6 oh0_7 oh0_8 oh0_9 oh0_10 oh0_11 oh0_12 oh0_13 oh0_14 oh0_19 oh0_20 oh0_21 oh0_22 oh0_23 oh0_24 oh0_25 oh0_26 oh0_27 oh0_28 oh0_29 oh0_30 oh0_31 oh0_32 oh0_33 oh0_34 oh0_35 oh0_36 oh0_37 : Value) (v_typed : Int32) (v_at : Int32) (v_start : Int32) (v_sort : Int32) (v_value : Int32) (v_text : Nat → Int32) (nv_at : Int32) (nv_start : Int32) (nv_sort : Int32) (nv_value : Int32) (hM : f9_step N v_typed v_at v_start v_sort v_value v_text = some (nv_at, nv_start, nv_sort, nv_value)) (sz : Nat) : CTv l yX9_step wsX9_step r9_step [.ref h0] D cy sz [(h0, .inr (9, [oh0_0, .ref h0_text, .int v_typed, oh0_3, oh0_4, oh0_5, oh0_6, oh0_7, oh0_8, oh0_9, oh0_10, oh0_11, oh0_12, oh0_13, oh0_14, .int v_at, .int v_start, .int v_sort, .int v_value, oh0_19, oh0_20, oh0_21, oh0_22, oh0_23, oh0_24, oh0_25, oh0_26, oh0_27, oh0_28, oh0_29, oh0_30, oh0_31, oh0_32, oh0_33, oh0_34, oh0_35, oh0_36, oh0_37])), (h0_text, .inl (cy 0, 500, .inl v_text))] [(h0, .inr (9, [oh0_0, .ref h0_text, .int v_typed, oh0_3, oh0_4, oh0_5, oh0_6, oh0_7, oh0_8, oh0_9, oh0_10, oh0_11, oh0_12, oh0_13, oh0_14, .int nv_at, .int nv_start, .int nv_sort, .int nv_value, oh0_19, oh0_20, oh0_21, oh0_22, oh0_23, oh0_24, oh0_25, oh0_26, oh0_27, oh0_28, oh0_29, oh0_30, oh0_31, oh0_32, oh0_33, oh0_34, oh0_35, oh0_36, oh0_37])), (h0_text, .inl (cy 0, 500, .inl v_text))] := by
  unfold f9_step at hM
  refine ct_ov (cc := cX9_step) (maxL := 5)  (by decide +kernel) rfl (Nat.le_of_ble_eq_true rfl) (lv0 := [(0, .ref h0)]) rfl ?_
  intro p e s m args below meth c A Q ls hx hb hts hown hml hK hP hD hS hA hret hl
  have hown : s.vm.findClass RX9 = some m.cls := hown
  have k106 := hts (.fieldLink RX9 106 "CaveYearsModel" "at" "I") (List.mem_of_getElem? (i := 1) rfl)
  have iX9 := (fun w h => (List.mem_cons_of_mem _ (List.mem_append_right _ h)) : ∀ w ∈ wsX90, w ∈ wsX9_step)
  have k114 := hts (.fieldLink RX9 114 "CaveYearsModel" "start" "I") (List.mem_of_getElem? (i := 2) rfl)
  have k117 := hts (.fieldLink RX9 117 "CaveYearsModel" "value" "I") (List.mem_of_getElem? (i := 3) rfl)
  have k120 := hts (.fieldLink RX9 120 "CaveYearsModel" "sort" "I") (List.mem_of_getElem? (i := 4) rfl)
  have k123 := hts (.constant RX9 123 (999999)) (List.mem_of_getElem? (i := 5) rfl)
  have L0 : ∀ (n : Nat) (v_at_0 : Int32) (v_at_e0 : Int32) (H : Heap) (locs : List Loc) (ls : Array Slot), f9_step_L0 N v_typed v_text n v_at_0 = some v_at_e0 → va_P D vwCl [(h0, .inr (9, [oh0_0, .ref h0_text, .int v_typed, oh0_3, oh0_4, oh0_5, oh0_6, oh0_7, oh0_8, oh0_9, oh0_10, oh0_11, oh0_12, oh0_13, oh0_14, .int v_at_0, .int v_start, .int v_sort, .int v_value, oh0_19, oh0_20, oh0_21, oh0_22, oh0_23, oh0_24, oh0_25, oh0_26, oh0_27, oh0_28, oh0_29, oh0_30, oh0_31, oh0_32, oh0_33, oh0_34, oh0_35, oh0_36, oh0_37])), (h0_text, .inl (cy 0, 500, .inl v_text))] H → va_D A [(h0, .inr (9, [oh0_0, .ref h0_text, .int v_typed, oh0_3, oh0_4, oh0_5, oh0_6, oh0_7, oh0_8, oh0_9, oh0_10, oh0_11, oh0_12, oh0_13, oh0_14, .int v_at_0, .int v_start, .int v_sort, .int v_value, oh0_19, oh0_20, oh0_21, oh0_22, oh0_23, oh0_24, oh0_25, oh0_26, oh0_27, oh0_28, oh0_29, oh0_30, oh0_31, oh0_32, oh0_33, oh0_34, oh0_35, oh0_36, oh0_37])), (h0_text, .inl (cy 0, 500, .inl v_text))] → va_S A s.heap H locs → lv_has ls 5 [(0, .ref h0)] → (∀ (H : Heap) (locs : List Loc) (ls : Array Slot), va_P D vwCl [(h0, .inr (9, [oh0_0, .ref h0_text, .int v_typed, oh0_3, oh0_4, oh0_5, oh0_6, oh0_7, oh0_8, oh0_9, oh0_10, oh0_11, oh0_12, oh0_13, oh0_14, .int v_at_e0, .int v_start, .int v_sort, .int v_value, oh0_19, oh0_20, oh0_21, oh0_22, oh0_23, oh0_24, oh0_25, oh0_26, oh0_27, oh0_28, oh0_29, oh0_30, oh0_31, oh0_32, oh0_33, oh0_34, oh0_35, oh0_36, oh0_37])), (h0_text, .inl (cy 0, 500, .inl v_text))] H → va_D A [(h0, .inr (9, [oh0_0, .ref h0_text, .int v_typed, oh0_3, oh0_4, oh0_5, oh0_6, oh0_7, oh0_8, oh0_9, oh0_10, oh0_11, oh0_12, oh0_13, oh0_14, .int v_at_e0, .int v_start, .int v_sort, .int v_value, oh0_19, oh0_20, oh0_21, oh0_22, oh0_23, oh0_24, oh0_25, oh0_26, oh0_27, oh0_28, oh0_29, oh0_30, oh0_31, oh0_32, oh0_33, oh0_34, oh0_35, oh0_36, oh0_37])), (h0_text, .inl (cy 0, 500, .inl v_text))] → va_S A s.heap H locs → lv_has ls 5 [(0, .ref h0)] → W p l e r9_step s m args below meth c H locs 0 0 Q (F0 m 22 ls [])) → W p l e r9_step s m args below meth c H locs 0 0 Q (F0 m 0 ls []) := by
    intro n
    induction n with
    | zero =>
      intro v_at_0 v_at_e0 H locs ls hM
      exact absurd hM (by simp [f9_step_L0])
    | succ n ih =>
      intro v_at_0 v_at_e0 H locs ls hM hP hD hS hl K
      rw [f9_step_L0] at hM
      refine lv_aload_n hx hb dX9_step_0 rfl (lv_at hl 0 rfl) ?_
      obtain ⟨r1, hc1, hM⟩ := ob1_some hM
      refine cl_vi (As := []) (rest := []) (ci := 9) (q0 := 0) (wr := []) (ws2 := [(h0, .inr (9, [oh0_0, .ref h0_text, .int v_typed, oh0_3, oh0_4, oh0_5, oh0_6, oh0_7, oh0_8, oh0_9, oh0_10, oh0_11, oh0_12, oh0_13, oh0_14, .int v_at_0, .int v_start, .int v_sort, .int v_value, oh0_19, oh0_20, oh0_21, oh0_22, oh0_23, oh0_24, oh0_25, oh0_26, oh0_27, oh0_28, oh0_29, oh0_30, oh0_31, oh0_32, oh0_33, oh0_34, oh0_35, oh0_36, oh0_37])), (h0_text, .inl (cy 0, 500, .inl v_text))]) (isC := [0, 1]) (isR := []) (pm := [0, 1]) hx hb hml hown hts (c9_here l D cy N h0 h0_text oh0_0 oh0_3 oh0_4 oh0_5 oh0_6 oh0_7 oh0_8 oh0_9 oh0_10 oh0_11 oh0_12 oh0_13 oh0_14 (.int v_start) (.int v_sort) (.int v_value) oh0_19 oh0_20 oh0_21 oh0_22 oh0_23 oh0_24 oh0_25 oh0_26 oh0_27 oh0_28 oh0_29 oh0_30 oh0_31 oh0_32 oh0_33 oh0_34 oh0_35 oh0_36 oh0_37 v_typed v_at_0 v_text r1 hc1) (cwV 0 hts gX9_step_X9_here rfl rfl rfl (by decide +kernel) ⟨Nat.le_of_ble_eq_true rfl, Nat.le_of_ble_eq_true rfl⟩) hK hP hD hS hA rfl rfl rfl rfl rfl (by decide) rfl rfl rfl hl.1 (Nat.le_of_ble_eq_true rfl) dX9_step_1 ⟨Nat.zero_le _, Nat.zero_le _⟩ rfl rfl (fun H locs hP hD hS => ?_)
      refine lv_bipush (v := 32) hx hb dX9_step_4 (by decide) ?_
      refine lv_icmp_ne (tgt := 22) hx hb dX9_step_6 (by decide) (fun c6 => ?_) (fun c6 => ?_)
      · have hM := g_neg c6 hM
        obtain rfl := si1 hM
        exact K _ _ _ hP hD hS (lv_sub hl [0] rfl)
      · have hM := g_pos c6 hM
        refine lv_aload_n hx hb dX9_step_9 rfl (lv_at hl 0 rfl) ?_
        refine lv_dup hx hb dX9_step_10 rfl ?_
        refine va_get (D := D) (ci := 9) (v := .int v_at_0) (C := RX9) (T := TX9) (N := 38) hx hb hts iX9 hown hK hP 0 rfl rfl 15 (by decide) k106 (fun _ h9 => h9) rfl dX9_step_11 ?_
        refine lv_iconst (v := 1) hx hb dX9_step_14 (by decide) ?_
        refine lv_iadd hx hb dX9_step_15 ?_
        refine va_put (D := D) (ci := 9) (v := .int (v_at_0 + (1 : Int32))) (ty := .int) (C := RX9) (T := TX9) (N := 38) hx hb hts iX9 tyX9 tyX9_ok nmX9 hown hK hP hD hS 0 rfl rfl 15 (by decide) k106 (fun _ h9 => h9) rfl (by decide +kernel) rfl rfl (Nat.le_of_ble_eq_true rfl) dX9_step_16 (fun H locs hP hD hS => ?_)
        have hP : va_P D vwCl [(h0, .inr (9, [oh0_0, .ref h0_text, .int v_typed, oh0_3, oh0_4, oh0_5, oh0_6, oh0_7, oh0_8, oh0_9, oh0_10, oh0_11, oh0_12, oh0_13, oh0_14, .int (v_at_0 + (1 : Int32)), .int v_start, .int v_sort, .int v_value, oh0_19, oh0_20, oh0_21, oh0_22, oh0_23, oh0_24, oh0_25, oh0_26, oh0_27, oh0_28, oh0_29, oh0_30, oh0_31, oh0_32, oh0_33, oh0_34, oh0_35, oh0_36, oh0_37])), (h0_text, .inl (cy 0, 500, .inl v_text))] H := hP
        have hD : va_D A [(h0, .inr (9, [oh0_0, .ref h0_text, .int v_typed, oh0_3, oh0_4, oh0_5, oh0_6, oh0_7, oh0_8, oh0_9, oh0_10, oh0_11, oh0_12, oh0_13, oh0_14, .int (v_at_0 + (1 : Int32)), .int v_start, .int v_sort, .int v_value, oh0_19, oh0_20, oh0_21, oh0_22, oh0_23, oh0_24, oh0_25, oh0_26, oh0_27, oh0_28, oh0_29, oh0_30, oh0_31, oh0_32, oh0_33, oh0_34, oh0_35, oh0_36, oh0_37])), (h0_text, .inl (cy 0, 500, .inl v_text))] := hD
        refine lv_goto (tgt := 0) hx hb dX9_step_19 (by decide) ?_
        exact ih (v_at_0 + (1 : Int32)) v_at_e0 _ _ _ hM hP hD hS (lv_sub hl [0] rfl) K
  obtain ⟨v_at_e0, hL0, hM⟩ := ob1_some hM
  refine L0 N v_at v_at_e0 _ _ _ hL0 hP hD hS (lv_sub hl [0] rfl) ?_
  intro H locs ls hP hD hS hl
  refine lv_aload_n hx hb dX9_step_22 rfl (lv_at hl 0 rfl) ?_
  refine lv_aload_n hx hb dX9_step_23 rfl (lv_at hl 0 rfl) ?_
  refine va_get (D := D) (ci := 9) (v := .int v_at_e0) (C := RX9) (T := TX9) (N := 38) hx hb hts iX9 hown hK hP 0 rfl rfl 15 (by decide) k106 (fun _ h9 => h9) rfl dX9_step_24 ?_
  refine va_put (D := D) (ci := 9) (v := .int v_at_e0) (ty := .int) (C := RX9) (T := TX9) (N := 38) hx hb hts iX9 tyX9 tyX9_ok nmX9 hown hK hP hD hS 0 rfl rfl 16 (by decide) k114 (fun _ h9 => h9) rfl (by decide +kernel) rfl rfl (Nat.le_of_ble_eq_true rfl) dX9_step_27 (fun H locs hP hD hS => ?_)
  have hP : va_P D vwCl [(h0, .inr (9, [oh0_0, .ref h0_text, .int v_typed, oh0_3, oh0_4, oh0_5, oh0_6, oh0_7, oh0_8, oh0_9, oh0_10, oh0_11, oh0_12, oh0_13, oh0_14, .int v_at_e0, .int v_at_e0, .int v_sort, .int v_value, oh0_19, oh0_20, oh0_21, oh0_22, oh0_23, oh0_24, oh0_25, oh0_26, oh0_27, oh0_28, oh0_29, oh0_30, oh0_31, oh0_32, oh0_33, oh0_34, oh0_35, oh0_36, oh0_37])), (h0_text, .inl (cy 0, 500, .inl v_text))] H := hP
  have hD : va_D A [(h0, .inr (9, [oh0_0, .ref h0_text, .int v_typed, oh0_3, oh0_4, oh0_5, oh0_6, oh0_7, oh0_8, oh0_9, oh0_10, oh0_11, oh0_12, oh0_13, oh0_14, .int v_at_e0, .int v_at_e0, .int v_sort, .int v_value, oh0_19, oh0_20, oh0_21, oh0_22, oh0_23, oh0_24, oh0_25, oh0_26, oh0_27, oh0_28, oh0_29, oh0_30, oh0_31, oh0_32, oh0_33, oh0_34, oh0_35, oh0_36, oh0_37])), (h0_text, .inl (cy 0, 500, .inl v_text))] := hD
  refine lv_aload_n hx hb dX9_step_30 rfl (lv_at hl 0 rfl) ?_
  refine lv_iconst (v := 0) hx hb dX9_step_31 (by decide) ?_
  refine va_put (D := D) (ci := 9) (v := .int (0 : Int32)) (ty := .int) (C := RX9) (T := TX9) (N := 38) hx hb hts iX9 tyX9 tyX9_ok nmX9 hown hK hP hD hS 0 rfl rfl 18 (by decide) k117 (fun _ h9 => h9) rfl (by decide +kernel) rfl rfl (Nat.le_of_ble_eq_true rfl) dX9_step_32 (fun H locs hP hD hS => ?_)
  have hP : va_P D vwCl [(h0, .inr (9, [oh0_0, .ref h0_text, .int v_typed, oh0_3, oh0_4, oh0_5, oh0_6, oh0_7, oh0_8, oh0_9, oh0_10, oh0_11, oh0_12, oh0_13, oh0_14, .int v_at_e0, .int v_at_e0, .int v_sort, .int (0 : Int32), oh0_19, oh0_20, oh0_21, oh0_22, oh0_23, oh0_24, oh0_25, oh0_26, oh0_27, oh0_28, oh0_29, oh0_30, oh0_31, oh0_32, oh0_33, oh0_34, oh0_35, oh0_36, oh0_37])), (h0_text, .inl (cy 0, 500, .inl v_text))] H := hP
  have hD : va_D A [(h0, .inr (9, [oh0_0, .ref h0_text, .int v_typed, oh0_3, oh0_4, oh0_5, oh0_6, oh0_7, oh0_8, oh0_9, oh0_10, oh0_11, oh0_12, oh0_13, oh0_14, .int v_at_e0, .int v_at_e0, .int v_sort, .int (0 : Int32), oh0_19, oh0_20, oh0_21, oh0_22, oh0_23, oh0_24, oh0_25, oh0_26, oh0_27, oh0_28, oh0_29, oh0_30, oh0_31, oh0_32, oh0_33, oh0_34, oh0_35, oh0_36, oh0_37])), (h0_text, .inl (cy 0, 500, .inl v_text))] := hD
  refine lv_aload_n hx hb dX9_step_35 rfl (lv_at hl 0 rfl) ?_
  obtain ⟨r36, hc36, hM⟩ := ob1_some hM
  refine cl_vi (As := []) (rest := []) (ci := 9) (q0 := 0) (wr := []) (ws2 := [(h0, .inr (9, [oh0_0, .ref h0_text, .int v_typed, oh0_3, oh0_4, oh0_5, oh0_6, oh0_7, oh0_8, oh0_9, oh0_10, oh0_11, oh0_12, oh0_13, oh0_14, .int v_at_e0, .int v_at_e0, .int v_sort, .int (0 : Int32), oh0_19, oh0_20, oh0_21, oh0_22, oh0_23, oh0_24, oh0_25, oh0_26, oh0_27, oh0_28, oh0_29, oh0_30, oh0_31, oh0_32, oh0_33, oh0_34, oh0_35, oh0_36, oh0_37])), (h0_text, .inl (cy 0, 500, .inl v_text))]) (isC := [0, 1]) (isR := []) (pm := [0, 1]) hx hb hml hown hts (c9_here l D cy N h0 h0_text oh0_0 oh0_3 oh0_4 oh0_5 oh0_6 oh0_7 oh0_8 oh0_9 oh0_10 oh0_11 oh0_12 oh0_13 oh0_14 (.int v_at_e0) (.int v_sort) (.int (0 : Int32)) oh0_19 oh0_20 oh0_21 oh0_22 oh0_23 oh0_24 oh0_25 oh0_26 oh0_27 oh0_28 oh0_29 oh0_30 oh0_31 oh0_32 oh0_33 oh0_34 oh0_35 oh0_36 oh0_37 v_typed v_at_e0 v_text r36 hc36) (cwV 0 hts gX9_step_X9_here rfl rfl rfl (by decide +kernel) ⟨Nat.le_of_ble_eq_true rfl, Nat.le_of_ble_eq_true rfl⟩) hK hP hD hS hA rfl rfl rfl rfl rfl (by decide) rfl rfl rfl hl.1 (Nat.le_of_ble_eq_true rfl) dX9_step_36 ⟨Nat.zero_le _, Nat.zero_le _⟩ rfl rfl (fun H locs hP hD hS => ?_)
  refine lv_istore_n (lv' := [(1, .int r36), (0, .ref h0)]) hx hb dX9_step_39 rfl hl (by decide) rfl (fun ls hl => ?_)
  refine lv_iload_n hx hb dX9_step_40 rfl (lv_at hl 0 rfl) ?_
  refine lv_if_ge (tgt := 53) hx hb dX9_step_41 (by decide) (fun c41 => ?_) (fun c41 => ?_)
  · have hM := g_pos c41 hM
    refine lv_iload_n hx hb dX9_step_53 rfl (lv_at hl 0 rfl) ?_
    refine lv_bipush (v := 97) hx hb dX9_step_54 (by decide) ?_
    refine lv_bipush (v := 122) hx hb dX9_step_56 (by decide) ?_
    obtain ⟨r58, hc58, hM⟩ := ob1_some hM
    refine cl_si (As := [.int r36, .int (97 : Int32), .int (122 : Int32)]) (rest := []) (wr := [(h0, .inr (9, [oh0_0, .ref h0_text, .int v_typed, oh0_3, oh0_4, oh0_5, oh0_6, oh0_7, oh0_8, oh0_9, oh0_10, oh0_11, oh0_12, oh0_13, oh0_14, .int v_at_e0, .int v_at_e0, .int v_sort, .int (0 : Int32), oh0_19, oh0_20, oh0_21, oh0_22, oh0_23, oh0_24, oh0_25, oh0_26, oh0_27, oh0_28, oh0_29, oh0_30, oh0_31, oh0_32, oh0_33, oh0_34, oh0_35, oh0_36, oh0_37])), (h0_text, .inl (cy 0, 500, .inl v_text))]) (ws2 := [(h0, .inr (9, [oh0_0, .ref h0_text, .int v_typed, oh0_3, oh0_4, oh0_5, oh0_6, oh0_7, oh0_8, oh0_9, oh0_10, oh0_11, oh0_12, oh0_13, oh0_14, .int v_at_e0, .int v_at_e0, .int v_sort, .int (0 : Int32), oh0_19, oh0_20, oh0_21, oh0_22, oh0_23, oh0_24, oh0_25, oh0_26, oh0_27, oh0_28, oh0_29, oh0_30, oh0_31, oh0_32, oh0_33, oh0_34, oh0_35, oh0_36, oh0_37])), (h0_text, .inl (cy 0, 500, .inl v_text))]) (isC := []) (isR := [0, 1]) (pm := [0, 1]) hx hb hml hown hts (c9_in l D cy N r36 (97 : Int32) (122 : Int32) r58 hc58) (va_cwS 3 hts gX9_step_X9_in rfl rfl rfl (by decide +kernel) ⟨Nat.le_of_ble_eq_true rfl, Nat.le_of_ble_eq_true rfl⟩) hK hP hD hS hA rfl rfl rfl (by decide) rfl rfl rfl hl.1 (Nat.le_of_ble_eq_true rfl) dX9_step_58 ⟨Nat.zero_le _, Nat.zero_le _⟩ rfl rfl (fun H locs hP hD hS => ?_)
    refine lv_if_eq (tgt := 178) hx hb dX9_step_61 (by decide) (fun c61 => ?_) (fun c61 => ?_)
    · have hM := g_pos c61 hM
      refine lv_iload_n hx hb dX9_step_178 rfl (lv_at hl 0 rfl) ?_
      refine lv_bipush (v := 48) hx hb dX9_step_179 (by decide) ?_
      refine lv_bipush (v := 57) hx hb dX9_step_181 (by decide) ?_
      obtain ⟨r183, hc183, hM⟩ := ob1_some hM
      refine cl_si (As := [.int r36, .int (48 : Int32), .int (57 : Int32)]) (rest := []) (wr := [(h0, .inr (9, [oh0_0, .ref h0_text, .int v_typed, oh0_3, oh0_4, oh0_5, oh0_6, oh0_7, oh0_8, oh0_9, oh0_10, oh0_11, oh0_12, oh0_13, oh0_14, .int v_at_e0, .int v_at_e0, .int v_sort, .int (0 : Int32), oh0_19, oh0_20, oh0_21, oh0_22, oh0_23, oh0_24, oh0_25, oh0_26, oh0_27, oh0_28, oh0_29, oh0_30, oh0_31, oh0_32, oh0_33, oh0_34, oh0_35, oh0_36, oh0_37])), (h0_text, .inl (cy 0, 500, .inl v_text))]) (ws2 := [(h0, .inr (9, [oh0_0, .ref h0_text, .int v_typed, oh0_3, oh0_4, oh0_5, oh0_6, oh0_7, oh0_8, oh0_9, oh0_10, oh0_11, oh0_12, oh0_13, oh0_14, .int v_at_e0, .int v_at_e0, .int v_sort, .int (0 : Int32), oh0_19, oh0_20, oh0_21, oh0_22, oh0_23, oh0_24, oh0_25, oh0_26, oh0_27, oh0_28, oh0_29, oh0_30, oh0_31, oh0_32, oh0_33, oh0_34, oh0_35, oh0_36, oh0_37])), (h0_text, .inl (cy 0, 500, .inl v_text))]) (isC := []) (isR := [0, 1]) (pm := [0, 1]) hx hb hml hown hts (c9_in l D cy N r36 (48 : Int32) (57 : Int32) r183 hc183) (va_cwS 3 hts gX9_step_X9_in rfl rfl rfl (by decide +kernel) ⟨Nat.le_of_ble_eq_true rfl, Nat.le_of_ble_eq_true rfl⟩) hK hP hD hS hA rfl rfl rfl (by decide) rfl rfl rfl hl.1 (Nat.le_of_ble_eq_true rfl) dX9_step_183 ⟨Nat.zero_le _, Nat.zero_le _⟩ rfl rfl (fun H locs hP hD hS => ?_)
      refine lv_if_eq (tgt := 263) hx hb dX9_step_186 (by decide) (fun c186 => ?_) (fun c186 => ?_)
      · have hM := g_pos c186 hM
        refine lv_aload_n hx hb dX9_step_263 rfl (lv_at hl 1 rfl) ?_
        refine lv_dup hx hb dX9_step_264 rfl ?_
        refine va_get (D := D) (ci := 9) (v := .int v_at_e0) (C := RX9) (T := TX9) (N := 38) hx hb hts iX9 hown hK hP 0 rfl rfl 15 (by decide) k106 (fun _ h9 => h9) rfl dX9_step_265 ?_
        refine lv_iconst (v := 1) hx hb dX9_step_268 (by decide) ?_
        refine lv_iadd hx hb dX9_step_269 ?_
        refine va_put (D := D) (ci := 9) (v := .int (v_at_e0 + (1 : Int32))) (ty := .int) (C := RX9) (T := TX9) (N := 38) hx hb hts iX9 tyX9 tyX9_ok nmX9 hown hK hP hD hS 0 rfl rfl 15 (by decide) k106 (fun _ h9 => h9) rfl (by decide +kernel) rfl rfl (Nat.le_of_ble_eq_true rfl) dX9_step_270 (fun H locs hP hD hS => ?_)
        have hP : va_P D vwCl [(h0, .inr (9, [oh0_0, .ref h0_text, .int v_typed, oh0_3, oh0_4, oh0_5, oh0_6, oh0_7, oh0_8, oh0_9, oh0_10, oh0_11, oh0_12, oh0_13, oh0_14, .int (v_at_e0 + (1 : Int32)), .int v_at_e0, .int v_sort, .int (0 : Int32), oh0_19, oh0_20, oh0_21, oh0_22, oh0_23, oh0_24, oh0_25, oh0_26, oh0_27, oh0_28, oh0_29, oh0_30, oh0_31, oh0_32, oh0_33, oh0_34, oh0_35, oh0_36, oh0_37])), (h0_text, .inl (cy 0, 500, .inl v_text))] H := hP
        have hD : va_D A [(h0, .inr (9, [oh0_0, .ref h0_text, .int v_typed, oh0_3, oh0_4, oh0_5, oh0_6, oh0_7, oh0_8, oh0_9, oh0_10, oh0_11, oh0_12, oh0_13, oh0_14, .int (v_at_e0 + (1 : Int32)), .int v_at_e0, .int v_sort, .int (0 : Int32), oh0_19, oh0_20, oh0_21, oh0_22, oh0_23, oh0_24, oh0_25, oh0_26, oh0_27, oh0_28, oh0_29, oh0_30, oh0_31, oh0_32, oh0_33, oh0_34, oh0_35, oh0_36, oh0_37])), (h0_text, .inl (cy 0, 500, .inl v_text))] := hD
        refine lv_aload_n hx hb dX9_step_273 rfl (lv_at hl 1 rfl) ?_
        refine lv_iload_n hx hb dX9_step_274 rfl (lv_at hl 0 rfl) ?_
        refine lv_bipush (v := 59) hx hb dX9_step_275 (by decide) ?_
        refine lv_icmp_ne (tgt := 285) hx hb dX9_step_277 (by decide) (fun c277 => ?_) (fun c277 => ?_)
        · have hM := g_neg c277 hM
          refine lv_bipush (v := 9) hx hb dX9_step_285 (by decide) ?_
          refine va_put (D := D) (ci := 9) (v := .int (9 : Int32)) (ty := .int) (C := RX9) (T := TX9) (N := 38) hx hb hts iX9 tyX9 tyX9_ok nmX9 hown hK hP hD hS 0 rfl rfl 17 (by decide) k120 (fun _ h9 => h9) rfl (by decide +kernel) rfl rfl (Nat.le_of_ble_eq_true rfl) dX9_step_287 (fun H locs hP hD hS => ?_)
          have hP : va_P D vwCl [(h0, .inr (9, [oh0_0, .ref h0_text, .int v_typed, oh0_3, oh0_4, oh0_5, oh0_6, oh0_7, oh0_8, oh0_9, oh0_10, oh0_11, oh0_12, oh0_13, oh0_14, .int (v_at_e0 + (1 : Int32)), .int v_at_e0, .int (9 : Int32), .int (0 : Int32), oh0_19, oh0_20, oh0_21, oh0_22, oh0_23, oh0_24, oh0_25, oh0_26, oh0_27, oh0_28, oh0_29, oh0_30, oh0_31, oh0_32, oh0_33, oh0_34, oh0_35, oh0_36, oh0_37])), (h0_text, .inl (cy 0, 500, .inl v_text))] H := hP
          have hD : va_D A [(h0, .inr (9, [oh0_0, .ref h0_text, .int v_typed, oh0_3, oh0_4, oh0_5, oh0_6, oh0_7, oh0_8, oh0_9, oh0_10, oh0_11, oh0_12, oh0_13, oh0_14, .int (v_at_e0 + (1 : Int32)), .int v_at_e0, .int (9 : Int32), .int (0 : Int32), oh0_19, oh0_20, oh0_21, oh0_22, oh0_23, oh0_24, oh0_25, oh0_26, oh0_27, oh0_28, oh0_29, oh0_30, oh0_31, oh0_32, oh0_33, oh0_34, oh0_35, oh0_36, oh0_37])), (h0_text, .inl (cy 0, 500, .inl v_text))] := hD
          obtain ⟨rfl, rfl, rfl, rfl⟩ := si4 hM
          exact hret _ _ _ _ dX9_step_290 hP hD hS
        · have hM := g_pos c277 hM
          refine lv_bipush (v := 7) hx hb dX9_step_280 (by decide) ?_
          refine lv_goto (tgt := 287) hx hb dX9_step_282 (by decide) ?_
          refine va_put (D := D) (ci := 9) (v := .int (7 : Int32)) (ty := .int) (C := RX9) (T := TX9) (N := 38) hx hb hts iX9 tyX9 tyX9_ok nmX9 hown hK hP hD hS 0 rfl rfl 17 (by decide) k120 (fun _ h9 => h9) rfl (by decide +kernel) rfl rfl (Nat.le_of_ble_eq_true rfl) dX9_step_287 (fun H locs hP hD hS => ?_)
          have hP : va_P D vwCl [(h0, .inr (9, [oh0_0, .ref h0_text, .int v_typed, oh0_3, oh0_4, oh0_5, oh0_6, oh0_7, oh0_8, oh0_9, oh0_10, oh0_11, oh0_12, oh0_13, oh0_14, .int (v_at_e0 + (1 : Int32)), .int v_at_e0, .int (7 : Int32), .int (0 : Int32), oh0_19, oh0_20, oh0_21, oh0_22, oh0_23, oh0_24, oh0_25, oh0_26, oh0_27, oh0_28, oh0_29, oh0_30, oh0_31, oh0_32, oh0_33, oh0_34, oh0_35, oh0_36, oh0_37])), (h0_text, .inl (cy 0, 500, .inl v_text))] H := hP
          have hD : va_D A [(h0, .inr (9, [oh0_0, .ref h0_text, .int v_typed, oh0_3, oh0_4, oh0_5, oh0_6, oh0_7, oh0_8, oh0_9, oh0_10, oh0_11, oh0_12, oh0_13, oh0_14, .int (v_at_e0 + (1 : Int32)), .int v_at_e0, .int (7 : Int32), .int (0 : Int32), oh0_19, oh0_20, oh0_21, oh0_22, oh0_23, oh0_24, oh0_25, oh0_26, oh0_27, oh0_28, oh0_29, oh0_30, oh0_31, oh0_32, oh0_33, oh0_34, oh0_35, oh0_36, oh0_37])), (h0_text, .inl (cy 0, 500, .inl v_text))] := hD
          obtain ⟨rfl, rfl, rfl, rfl⟩ := si4 hM
          exact hret _ _ _ _ dX9_step_290 hP hD hS
      · have hM := g_neg c186 hM
        have L189 : ∀ (n : Nat) (v_at_189 : Int32) (v_value_189 : Int32) (v_at_e189 : Int32) (v_value_e189 : Int32) (H : Heap) (locs : List Loc) (ls : Array Slot), f9_step_L189 N v_typed v_text v_at_e0 n v_at_189 v_value_189 = some (v_at_e189, v_value_e189) → va_P D vwCl [(h0, .inr (9, [oh0_0, .ref h0_text, .int v_typed, oh0_3, oh0_4, oh0_5, oh0_6, oh0_7, oh0_8, oh0_9, oh0_10, oh0_11, oh0_12, oh0_13, oh0_14, .int v_at_189, .int v_at_e0, .int v_sort, .int v_value_189, oh0_19, oh0_20, oh0_21, oh0_22, oh0_23, oh0_24, oh0_25, oh0_26, oh0_27, oh0_28, oh0_29, oh0_30, oh0_31, oh0_32, oh0_33, oh0_34, oh0_35, oh0_36, oh0_37])), (h0_text, .inl (cy 0, 500, .inl v_text))] H → va_D A [(h0, .inr (9, [oh0_0, .ref h0_text, .int v_typed, oh0_3, oh0_4, oh0_5, oh0_6, oh0_7, oh0_8, oh0_9, oh0_10, oh0_11, oh0_12, oh0_13, oh0_14, .int v_at_189, .int v_at_e0, .int v_sort, .int v_value_189, oh0_19, oh0_20, oh0_21, oh0_22, oh0_23, oh0_24, oh0_25, oh0_26, oh0_27, oh0_28, oh0_29, oh0_30, oh0_31, oh0_32, oh0_33, oh0_34, oh0_35, oh0_36, oh0_37])), (h0_text, .inl (cy 0, 500, .inl v_text))] → va_S A s.heap H locs → lv_has ls 5 [(0, .ref h0)] → (∀ (H : Heap) (locs : List Loc) (ls : Array Slot), va_P D vwCl [(h0, .inr (9, [oh0_0, .ref h0_text, .int v_typed, oh0_3, oh0_4, oh0_5, oh0_6, oh0_7, oh0_8, oh0_9, oh0_10, oh0_11, oh0_12, oh0_13, oh0_14, .int v_at_e189, .int v_at_e0, .int v_sort, .int v_value_e189, oh0_19, oh0_20, oh0_21, oh0_22, oh0_23, oh0_24, oh0_25, oh0_26, oh0_27, oh0_28, oh0_29, oh0_30, oh0_31, oh0_32, oh0_33, oh0_34, oh0_35, oh0_36, oh0_37])), (h0_text, .inl (cy 0, 500, .inl v_text))] H → va_D A [(h0, .inr (9, [oh0_0, .ref h0_text, .int v_typed, oh0_3, oh0_4, oh0_5, oh0_6, oh0_7, oh0_8, oh0_9, oh0_10, oh0_11, oh0_12, oh0_13, oh0_14, .int v_at_e189, .int v_at_e0, .int v_sort, .int v_value_e189, oh0_19, oh0_20, oh0_21, oh0_22, oh0_23, oh0_24, oh0_25, oh0_26, oh0_27, oh0_28, oh0_29, oh0_30, oh0_31, oh0_32, oh0_33, oh0_34, oh0_35, oh0_36, oh0_37])), (h0_text, .inl (cy 0, 500, .inl v_text))] → va_S A s.heap H locs → lv_has ls 5 [(0, .ref h0)] → W p l e r9_step s m args below meth c H locs 0 0 Q (F0 m 254 ls [])) → W p l e r9_step s m args below meth c H locs 0 0 Q (F0 m 189 ls []) := by
          intro n
          induction n with
          | zero =>
            intro v_at_189 v_value_189 v_at_e189 v_value_e189 H locs ls hM
            exact absurd hM (by simp [f9_step_L189])
          | succ n ih =>
            intro v_at_189 v_value_189 v_at_e189 v_value_e189 H locs ls hM hP hD hS hl K
            rw [f9_step_L189] at hM
            refine lv_aload_n hx hb dX9_step_189 rfl (lv_at hl 0 rfl) ?_
            obtain ⟨r190, hc190, hM⟩ := ob1_some hM
            refine cl_vi (As := []) (rest := []) (ci := 9) (q0 := 0) (wr := []) (ws2 := [(h0, .inr (9, [oh0_0, .ref h0_text, .int v_typed, oh0_3, oh0_4, oh0_5, oh0_6, oh0_7, oh0_8, oh0_9, oh0_10, oh0_11, oh0_12, oh0_13, oh0_14, .int v_at_189, .int v_at_e0, .int v_sort, .int v_value_189, oh0_19, oh0_20, oh0_21, oh0_22, oh0_23, oh0_24, oh0_25, oh0_26, oh0_27, oh0_28, oh0_29, oh0_30, oh0_31, oh0_32, oh0_33, oh0_34, oh0_35, oh0_36, oh0_37])), (h0_text, .inl (cy 0, 500, .inl v_text))]) (isC := [0, 1]) (isR := []) (pm := [0, 1]) hx hb hml hown hts (c9_here l D cy N h0 h0_text oh0_0 oh0_3 oh0_4 oh0_5 oh0_6 oh0_7 oh0_8 oh0_9 oh0_10 oh0_11 oh0_12 oh0_13 oh0_14 (.int v_at_e0) (.int v_sort) (.int v_value_189) oh0_19 oh0_20 oh0_21 oh0_22 oh0_23 oh0_24 oh0_25 oh0_26 oh0_27 oh0_28 oh0_29 oh0_30 oh0_31 oh0_32 oh0_33 oh0_34 oh0_35 oh0_36 oh0_37 v_typed v_at_189 v_text r190 hc190) (cwV 0 hts gX9_step_X9_here rfl rfl rfl (by decide +kernel) ⟨Nat.le_of_ble_eq_true rfl, Nat.le_of_ble_eq_true rfl⟩) hK hP hD hS hA rfl rfl rfl rfl rfl (by decide) rfl rfl rfl hl.1 (Nat.le_of_ble_eq_true rfl) dX9_step_190 ⟨Nat.zero_le _, Nat.zero_le _⟩ rfl rfl (fun H locs hP hD hS => ?_)
            refine lv_bipush (v := 48) hx hb dX9_step_193 (by decide) ?_
            refine lv_bipush (v := 57) hx hb dX9_step_195 (by decide) ?_
            obtain ⟨r197, hc197, hM⟩ := ob1_some hM
            refine cl_si (As := [.int r190, .int (48 : Int32), .int (57 : Int32)]) (rest := []) (wr := [(h0, .inr (9, [oh0_0, .ref h0_text, .int v_typed, oh0_3, oh0_4, oh0_5, oh0_6, oh0_7, oh0_8, oh0_9, oh0_10, oh0_11, oh0_12, oh0_13, oh0_14, .int v_at_189, .int v_at_e0, .int v_sort, .int v_value_189, oh0_19, oh0_20, oh0_21, oh0_22, oh0_23, oh0_24, oh0_25, oh0_26, oh0_27, oh0_28, oh0_29, oh0_30, oh0_31, oh0_32, oh0_33, oh0_34, oh0_35, oh0_36, oh0_37])), (h0_text, .inl (cy 0, 500, .inl v_text))]) (ws2 := [(h0, .inr (9, [oh0_0, .ref h0_text, .int v_typed, oh0_3, oh0_4, oh0_5, oh0_6, oh0_7, oh0_8, oh0_9, oh0_10, oh0_11, oh0_12, oh0_13, oh0_14, .int v_at_189, .int v_at_e0, .int v_sort, .int v_value_189, oh0_19, oh0_20, oh0_21, oh0_22, oh0_23, oh0_24, oh0_25, oh0_26, oh0_27, oh0_28, oh0_29, oh0_30, oh0_31, oh0_32, oh0_33, oh0_34, oh0_35, oh0_36, oh0_37])), (h0_text, .inl (cy 0, 500, .inl v_text))]) (isC := []) (isR := [0, 1]) (pm := [0, 1]) hx hb hml hown hts (c9_in l D cy N r190 (48 : Int32) (57 : Int32) r197 hc197) (va_cwS 3 hts gX9_step_X9_in rfl rfl rfl (by decide +kernel) ⟨Nat.le_of_ble_eq_true rfl, Nat.le_of_ble_eq_true rfl⟩) hK hP hD hS hA rfl rfl rfl (by decide) rfl rfl rfl hl.1 (Nat.le_of_ble_eq_true rfl) dX9_step_197 ⟨Nat.zero_le _, Nat.zero_le _⟩ rfl rfl (fun H locs hP hD hS => ?_)
            refine lv_if_eq (tgt := 254) hx hb dX9_step_200 (by decide) (fun c200 => ?_) (fun c200 => ?_)
            · have hM := g_pos c200 hM
              obtain ⟨rfl, rfl⟩ := si2 hM
              exact K _ _ _ hP hD hS (lv_sub hl [0] rfl)
            · have hM := g_neg c200 hM
              refine lv_aload_n hx hb dX9_step_203 rfl (lv_at hl 0 rfl) ?_
              refine lv_aload_n hx hb dX9_step_204 rfl (lv_at hl 0 rfl) ?_
              refine va_get (D := D) (ci := 9) (v := .int v_at_189) (C := RX9) (T := TX9) (N := 38) hx hb hts iX9 hown hK hP 0 rfl rfl 15 (by decide) k106 (fun _ h9 => h9) rfl dX9_step_205 ?_
              refine lv_aload_n hx hb dX9_step_208 rfl (lv_at hl 0 rfl) ?_
              refine va_get (D := D) (ci := 9) (v := .int v_at_e0) (C := RX9) (T := TX9) (N := 38) hx hb hts iX9 hown hK hP 0 rfl rfl 16 (by decide) k114 (fun _ h9 => h9) rfl dX9_step_209 ?_
              refine lv_isub hx hb dX9_step_212 ?_
              refine lv_iconst (v := 3) hx hb dX9_step_213 (by decide) ?_
              refine lv_icmp_ge (tgt := 235) hx hb dX9_step_214 (by decide) (fun c214 => ?_) (fun c214 => ?_)
              · have hM := g_pos c214 hM
                refine lv_sipush (v := 9999) hx hb dX9_step_235 (by decide) ?_
                refine va_put (D := D) (ci := 9) (v := .int (9999 : Int32)) (ty := .int) (C := RX9) (T := TX9) (N := 38) hx hb hts iX9 tyX9 tyX9_ok nmX9 hown hK hP hD hS 0 rfl rfl 18 (by decide) k117 (fun _ h9 => h9) rfl (by decide +kernel) rfl rfl (Nat.le_of_ble_eq_true rfl) dX9_step_238 (fun H locs hP hD hS => ?_)
                have hP : va_P D vwCl [(h0, .inr (9, [oh0_0, .ref h0_text, .int v_typed, oh0_3, oh0_4, oh0_5, oh0_6, oh0_7, oh0_8, oh0_9, oh0_10, oh0_11, oh0_12, oh0_13, oh0_14, .int v_at_189, .int v_at_e0, .int v_sort, .int (9999 : Int32), oh0_19, oh0_20, oh0_21, oh0_22, oh0_23, oh0_24, oh0_25, oh0_26, oh0_27, oh0_28, oh0_29, oh0_30, oh0_31, oh0_32, oh0_33, oh0_34, oh0_35, oh0_36, oh0_37])), (h0_text, .inl (cy 0, 500, .inl v_text))] H := hP
                have hD : va_D A [(h0, .inr (9, [oh0_0, .ref h0_text, .int v_typed, oh0_3, oh0_4, oh0_5, oh0_6, oh0_7, oh0_8, oh0_9, oh0_10, oh0_11, oh0_12, oh0_13, oh0_14, .int v_at_189, .int v_at_e0, .int v_sort, .int (9999 : Int32), oh0_19, oh0_20, oh0_21, oh0_22, oh0_23, oh0_24, oh0_25, oh0_26, oh0_27, oh0_28, oh0_29, oh0_30, oh0_31, oh0_32, oh0_33, oh0_34, oh0_35, oh0_36, oh0_37])), (h0_text, .inl (cy 0, 500, .inl v_text))] := hD
                refine lv_aload_n hx hb dX9_step_241 rfl (lv_at hl 0 rfl) ?_
                refine lv_dup hx hb dX9_step_242 rfl ?_
                refine va_get (D := D) (ci := 9) (v := .int v_at_189) (C := RX9) (T := TX9) (N := 38) hx hb hts iX9 hown hK hP 0 rfl rfl 15 (by decide) k106 (fun _ h9 => h9) rfl dX9_step_243 ?_
                refine lv_iconst (v := 1) hx hb dX9_step_246 (by decide) ?_
                refine lv_iadd hx hb dX9_step_247 ?_
                refine va_put (D := D) (ci := 9) (v := .int (v_at_189 + (1 : Int32))) (ty := .int) (C := RX9) (T := TX9) (N := 38) hx hb hts iX9 tyX9 tyX9_ok nmX9 hown hK hP hD hS 0 rfl rfl 15 (by decide) k106 (fun _ h9 => h9) rfl (by decide +kernel) rfl rfl (Nat.le_of_ble_eq_true rfl) dX9_step_248 (fun H locs hP hD hS => ?_)
                have hP : va_P D vwCl [(h0, .inr (9, [oh0_0, .ref h0_text, .int v_typed, oh0_3, oh0_4, oh0_5, oh0_6, oh0_7, oh0_8, oh0_9, oh0_10, oh0_11, oh0_12, oh0_13, oh0_14, .int (v_at_189 + (1 : Int32)), .int v_at_e0, .int v_sort, .int (9999 : Int32), oh0_19, oh0_20, oh0_21, oh0_22, oh0_23, oh0_24, oh0_25, oh0_26, oh0_27, oh0_28, oh0_29, oh0_30, oh0_31, oh0_32, oh0_33, oh0_34, oh0_35, oh0_36, oh0_37])), (h0_text, .inl (cy 0, 500, .inl v_text))] H := hP
                have hD : va_D A [(h0, .inr (9, [oh0_0, .ref h0_text, .int v_typed, oh0_3, oh0_4, oh0_5, oh0_6, oh0_7, oh0_8, oh0_9, oh0_10, oh0_11, oh0_12, oh0_13, oh0_14, .int (v_at_189 + (1 : Int32)), .int v_at_e0, .int v_sort, .int (9999 : Int32), oh0_19, oh0_20, oh0_21, oh0_22, oh0_23, oh0_24, oh0_25, oh0_26, oh0_27, oh0_28, oh0_29, oh0_30, oh0_31, oh0_32, oh0_33, oh0_34, oh0_35, oh0_36, oh0_37])), (h0_text, .inl (cy 0, 500, .inl v_text))] := hD
                refine lv_goto (tgt := 189) hx hb dX9_step_251 (by decide) ?_
                exact ih (v_at_189 + (1 : Int32)) (9999 : Int32) v_at_e189 v_value_e189 _ _ _ hM hP hD hS (lv_sub hl [0] rfl) K
              · have hM := g_neg c214 hM
                refine lv_bipush (v := 10) hx hb dX9_step_217 (by decide) ?_
                refine lv_aload_n hx hb dX9_step_219 rfl (lv_at hl 0 rfl) ?_
                refine va_get (D := D) (ci := 9) (v := .int v_value_189) (C := RX9) (T := TX9) (N := 38) hx hb hts iX9 hown hK hP 0 rfl rfl 18 (by decide) k117 (fun _ h9 => h9) rfl dX9_step_220 ?_
                refine lv_imul hx hb dX9_step_223 ?_
                refine lv_aload_n hx hb dX9_step_224 rfl (lv_at hl 0 rfl) ?_
                obtain ⟨r225, hc225, hM⟩ := ob1_some hM
                refine cl_vi (As := []) (rest := [.int ((10 : Int32) * v_value_189), .ref h0]) (ci := 9) (q0 := 0) (wr := []) (ws2 := [(h0, .inr (9, [oh0_0, .ref h0_text, .int v_typed, oh0_3, oh0_4, oh0_5, oh0_6, oh0_7, oh0_8, oh0_9, oh0_10, oh0_11, oh0_12, oh0_13, oh0_14, .int v_at_189, .int v_at_e0, .int v_sort, .int v_value_189, oh0_19, oh0_20, oh0_21, oh0_22, oh0_23, oh0_24, oh0_25, oh0_26, oh0_27, oh0_28, oh0_29, oh0_30, oh0_31, oh0_32, oh0_33, oh0_34, oh0_35, oh0_36, oh0_37])), (h0_text, .inl (cy 0, 500, .inl v_text))]) (isC := [0, 1]) (isR := []) (pm := [0, 1]) hx hb hml hown hts (c9_here l D cy N h0 h0_text oh0_0 oh0_3 oh0_4 oh0_5 oh0_6 oh0_7 oh0_8 oh0_9 oh0_10 oh0_11 oh0_12 oh0_13 oh0_14 (.int v_at_e0) (.int v_sort) (.int v_value_189) oh0_19 oh0_20 oh0_21 oh0_22 oh0_23 oh0_24 oh0_25 oh0_26 oh0_27 oh0_28 oh0_29 oh0_30 oh0_31 oh0_32 oh0_33 oh0_34 oh0_35 oh0_36 oh0_37 v_typed v_at_189 v_text r225 hc225) (cwV 0 hts gX9_step_X9_here rfl rfl rfl (by decide +kernel) ⟨Nat.le_of_ble_eq_true rfl, Nat.le_of_ble_eq_true rfl⟩) hK hP hD hS hA rfl rfl rfl rfl rfl (by decide) rfl rfl rfl hl.1 (Nat.le_of_ble_eq_true rfl) dX9_step_225 ⟨Nat.zero_le _, Nat.zero_le _⟩ rfl rfl (fun H locs hP hD hS => ?_)
                refine lv_iadd hx hb dX9_step_228 ?_
                refine lv_bipush (v := 48) hx hb dX9_step_229 (by decide) ?_
                refine lv_isub hx hb dX9_step_231 ?_
                refine lv_goto (tgt := 238) hx hb dX9_step_232 (by decide) ?_
                refine va_put (D := D) (ci := 9) (v := .int ((((10 : Int32) * v_value_189) + r225) - (48 : Int32))) (ty := .int) (C := RX9) (T := TX9) (N := 38) hx hb hts iX9 tyX9 tyX9_ok nmX9 hown hK hP hD hS 0 rfl rfl 18 (by decide) k117 (fun _ h9 => h9) rfl (by decide +kernel) rfl rfl (Nat.le_of_ble_eq_true rfl) dX9_step_238 (fun H locs hP hD hS => ?_)
                have hP : va_P D vwCl [(h0, .inr (9, [oh0_0, .ref h0_text, .int v_typed, oh0_3, oh0_4, oh0_5, oh0_6, oh0_7, oh0_8, oh0_9, oh0_10, oh0_11, oh0_12, oh0_13, oh0_14, .int v_at_189, .int v_at_e0, .int v_sort, .int ((((10 : Int32) * v_value_189) + r225) - (48 : Int32)), oh0_19, oh0_20, oh0_21, oh0_22, oh0_23, oh0_24, oh0_25, oh0_26, oh0_27, oh0_28, oh0_29, oh0_30, oh0_31, oh0_32, oh0_33, oh0_34, oh0_35, oh0_36, oh0_37])), (h0_text, .inl (cy 0, 500, .inl v_text))] H := hP
                have hD : va_D A [(h0, .inr (9, [oh0_0, .ref h0_text, .int v_typed, oh0_3, oh0_4, oh0_5, oh0_6, oh0_7, oh0_8, oh0_9, oh0_10, oh0_11, oh0_12, oh0_13, oh0_14, .int v_at_189, .int v_at_e0, .int v_sort, .int ((((10 : Int32) * v_value_189) + r225) - (48 : Int32)), oh0_19, oh0_20, oh0_21, oh0_22, oh0_23, oh0_24, oh0_25, oh0_26, oh0_27, oh0_28, oh0_29, oh0_30, oh0_31, oh0_32, oh0_33, oh0_34, oh0_35, oh0_36, oh0_37])), (h0_text, .inl (cy 0, 500, .inl v_text))] := hD
                refine lv_aload_n hx hb dX9_step_241 rfl (lv_at hl 0 rfl) ?_
                refine lv_dup hx hb dX9_step_242 rfl ?_
                refine va_get (D := D) (ci := 9) (v := .int v_at_189) (C := RX9) (T := TX9) (N := 38) hx hb hts iX9 hown hK hP 0 rfl rfl 15 (by decide) k106 (fun _ h9 => h9) rfl dX9_step_243 ?_
                refine lv_iconst (v := 1) hx hb dX9_step_246 (by decide) ?_
                refine lv_iadd hx hb dX9_step_247 ?_
                refine va_put (D := D) (ci := 9) (v := .int (v_at_189 + (1 : Int32))) (ty := .int) (C := RX9) (T := TX9) (N := 38) hx hb hts iX9 tyX9 tyX9_ok nmX9 hown hK hP hD hS 0 rfl rfl 15 (by decide) k106 (fun _ h9 => h9) rfl (by decide +kernel) rfl rfl (Nat.le_of_ble_eq_true rfl) dX9_step_248 (fun H locs hP hD hS => ?_)
                have hP : va_P D vwCl [(h0, .inr (9, [oh0_0, .ref h0_text, .int v_typed, oh0_3, oh0_4, oh0_5, oh0_6, oh0_7, oh0_8, oh0_9, oh0_10, oh0_11, oh0_12, oh0_13, oh0_14, .int (v_at_189 + (1 : Int32)), .int v_at_e0, .int v_sort, .int ((((10 : Int32) * v_value_189) + r225) - (48 : Int32)), oh0_19, oh0_20, oh0_21, oh0_22, oh0_23, oh0_24, oh0_25, oh0_26, oh0_27, oh0_28, oh0_29, oh0_30, oh0_31, oh0_32, oh0_33, oh0_34, oh0_35, oh0_36, oh0_37])), (h0_text, .inl (cy 0, 500, .inl v_text))] H := hP
                have hD : va_D A [(h0, .inr (9, [oh0_0, .ref h0_text, .int v_typed, oh0_3, oh0_4, oh0_5, oh0_6, oh0_7, oh0_8, oh0_9, oh0_10, oh0_11, oh0_12, oh0_13, oh0_14, .int (v_at_189 + (1 : Int32)), .int v_at_e0, .int v_sort, .int ((((10 : Int32) * v_value_189) + r225) - (48 : Int32)), oh0_19, oh0_20, oh0_21, oh0_22, oh0_23, oh0_24, oh0_25, oh0_26, oh0_27, oh0_28, oh0_29, oh0_30, oh0_31, oh0_32, oh0_33, oh0_34, oh0_35, oh0_36, oh0_37])), (h0_text, .inl (cy 0, 500, .inl v_text))] := hD
                refine lv_goto (tgt := 189) hx hb dX9_step_251 (by decide) ?_
                exact ih (v_at_189 + (1 : Int32)) ((((10 : Int32) * v_value_189) + r225) - (48 : Int32)) v_at_e189 v_value_e189 _ _ _ hM hP hD hS (lv_sub hl [0] rfl) K
        obtain ⟨v_at_e189, v_value_e189, hL189, hM⟩ := ob2_some hM
        refine L189 N v_at_e0 (0 : Int32) v_at_e189 v_value_e189 _ _ _ hL189 hP hD hS (lv_sub hl [1] rfl) ?_
        intro H locs ls hP hD hS hl
        refine lv_aload_n hx hb dX9_step_254 rfl (lv_at hl 0 rfl) ?_
        refine lv_bipush (v := 6) hx hb dX9_step_255 (by decide) ?_
        refine va_put (D := D) (ci := 9) (v := .int (6 : Int32)) (ty := .int) (C := RX9) (T := TX9) (N := 38) hx hb hts iX9 tyX9 tyX9_ok nmX9 hown hK hP hD hS 0 rfl rfl 17 (by decide) k120 (fun _ h9 => h9) rfl (by decide +kernel) rfl rfl (Nat.le_of_ble_eq_true rfl) dX9_step_257 (fun H locs hP hD hS => ?_)
        have hP : va_P D vwCl [(h0, .inr (9, [oh0_0, .ref h0_text, .int v_typed, oh0_3, oh0_4, oh0_5, oh0_6, oh0_7, oh0_8, oh0_9, oh0_10, oh0_11, oh0_12, oh0_13, oh0_14, .int v_at_e189, .int v_at_e0, .int (6 : Int32), .int v_value_e189, oh0_19, oh0_20, oh0_21, oh0_22, oh0_23, oh0_24, oh0_25, oh0_26, oh0_27, oh0_28, oh0_29, oh0_30, oh0_31, oh0_32, oh0_33, oh0_34, oh0_35, oh0_36, oh0_37])), (h0_text, .inl (cy 0, 500, .inl v_text))] H := hP
        have hD : va_D A [(h0, .inr (9, [oh0_0, .ref h0_text, .int v_typed, oh0_3, oh0_4, oh0_5, oh0_6, oh0_7, oh0_8, oh0_9, oh0_10, oh0_11, oh0_12, oh0_13, oh0_14, .int v_at_e189, .int v_at_e0, .int (6 : Int32), .int v_value_e189, oh0_19, oh0_20, oh0_21, oh0_22, oh0_23, oh0_24, oh0_25, oh0_26, oh0_27, oh0_28, oh0_29, oh0_30, oh0_31, oh0_32, oh0_33, oh0_34, oh0_35, oh0_36, oh0_37])), (h0_text, .inl (cy 0, 500, .inl v_text))] := hD
        refine lv_goto (tgt := 290) hx hb dX9_step_260 (by decide) ?_
        obtain ⟨rfl, rfl, rfl, rfl⟩ := si4 hM
        exact hret _ _ _ _ dX9_step_290 hP hD hS
    · have hM := g_neg c61 hM
      refine lv_iconst (v := 0) hx hb dX9_step_64 (by decide) ?_
      refine lv_istore_n (lv' := [(2, .int (0 : Int32)), (1, .int r36), (0, .ref h0)]) hx hb dX9_step_65 rfl hl (by decide) rfl (fun ls hl => ?_)
      refine lv_iconst (v := 0) hx hb dX9_step_66 (by decide) ?_
      refine lv_istore_n (lv' := [(3, .int (0 : Int32)), (2, .int (0 : Int32)), (1, .int r36), (0, .ref h0)]) hx hb dX9_step_67 rfl hl (by decide) rfl (fun ls hl => ?_)
      have L68 : ∀ (n : Nat) (x2_68 : Int32) (x3_68 : Int32) (v_at_68 : Int32) (e2_68 : Int32) (e3_68 : Int32) (v_at_e68 : Int32) (H : Heap) (locs : List Loc) (ls : Array Slot), f9_step_L68 N v_typed v_text v_at_e0 n x2_68 x3_68 v_at_68 = some (e2_68, e3_68, v_at_e68) → va_P D vwCl [(h0, .inr (9, [oh0_0, .ref h0_text, .int v_typed, oh0_3, oh0_4, oh0_5, oh0_6, oh0_7, oh0_8, oh0_9, oh0_10, oh0_11, oh0_12, oh0_13, oh0_14, .int v_at_68, .int v_at_e0, .int v_sort, .int (0 : Int32), oh0_19, oh0_20, oh0_21, oh0_22, oh0_23, oh0_24, oh0_25, oh0_26, oh0_27, oh0_28, oh0_29, oh0_30, oh0_31, oh0_32, oh0_33, oh0_34, oh0_35, oh0_36, oh0_37])), (h0_text, .inl (cy 0, 500, .inl v_text))] H → va_D A [(h0, .inr (9, [oh0_0, .ref h0_text, .int v_typed, oh0_3, oh0_4, oh0_5, oh0_6, oh0_7, oh0_8, oh0_9, oh0_10, oh0_11, oh0_12, oh0_13, oh0_14, .int v_at_68, .int v_at_e0, .int v_sort, .int (0 : Int32), oh0_19, oh0_20, oh0_21, oh0_22, oh0_23, oh0_24, oh0_25, oh0_26, oh0_27, oh0_28, oh0_29, oh0_30, oh0_31, oh0_32, oh0_33, oh0_34, oh0_35, oh0_36, oh0_37])), (h0_text, .inl (cy 0, 500, .inl v_text))] → va_S A s.heap H locs → lv_has ls 5 [(0, .ref h0), (2, .int x2_68), (3, .int x3_68)] → (∀ (H : Heap) (locs : List Loc) (ls : Array Slot), va_P D vwCl [(h0, .inr (9, [oh0_0, .ref h0_text, .int v_typed, oh0_3, oh0_4, oh0_5, oh0_6, oh0_7, oh0_8, oh0_9, oh0_10, oh0_11, oh0_12, oh0_13, oh0_14, .int v_at_e68, .int v_at_e0, .int v_sort, .int (0 : Int32), oh0_19, oh0_20, oh0_21, oh0_22, oh0_23, oh0_24, oh0_25, oh0_26, oh0_27, oh0_28, oh0_29, oh0_30, oh0_31, oh0_32, oh0_33, oh0_34, oh0_35, oh0_36, oh0_37])), (h0_text, .inl (cy 0, 500, .inl v_text))] H → va_D A [(h0, .inr (9, [oh0_0, .ref h0_text, .int v_typed, oh0_3, oh0_4, oh0_5, oh0_6, oh0_7, oh0_8, oh0_9, oh0_10, oh0_11, oh0_12, oh0_13, oh0_14, .int v_at_e68, .int v_at_e0, .int v_sort, .int (0 : Int32), oh0_19, oh0_20, oh0_21, oh0_22, oh0_23, oh0_24, oh0_25, oh0_26, oh0_27, oh0_28, oh0_29, oh0_30, oh0_31, oh0_32, oh0_33, oh0_34, oh0_35, oh0_36, oh0_37])), (h0_text, .inl (cy 0, 500, .inl v_text))] → va_S A s.heap H locs → lv_has ls 5 [(0, .ref h0), (2, .int e2_68), (3, .int e3_68)] → W p l e r9_step s m args below meth c H locs 0 0 Q (F0 m 166 ls [])) → W p l e r9_step s m args below meth c H locs 0 0 Q (F0 m 68 ls []) := by
        intro n
        induction n with
        | zero =>
          intro x2_68 x3_68 v_at_68 e2_68 e3_68 v_at_e68 H locs ls hM
          exact absurd hM (by simp [f9_step_L68])
        | succ n ih =>
          intro x2_68 x3_68 v_at_68 e2_68 e3_68 v_at_e68 H locs ls hM hP hD hS hl K
          rw [f9_step_L68] at hM
          refine lv_aload_n hx hb dX9_step_68 rfl (lv_at hl 0 rfl) ?_
          obtain ⟨r69, hc69, hM⟩ := ob1_some hM
          refine cl_vi (As := []) (rest := []) (ci := 9) (q0 := 0) (wr := []) (ws2 := [(h0, .inr (9, [oh0_0, .ref h0_text, .int v_typed, oh0_3, oh0_4, oh0_5, oh0_6, oh0_7, oh0_8, oh0_9, oh0_10, oh0_11, oh0_12, oh0_13, oh0_14, .int v_at_68, .int v_at_e0, .int v_sort, .int (0 : Int32), oh0_19, oh0_20, oh0_21, oh0_22, oh0_23, oh0_24, oh0_25, oh0_26, oh0_27, oh0_28, oh0_29, oh0_30, oh0_31, oh0_32, oh0_33, oh0_34, oh0_35, oh0_36, oh0_37])), (h0_text, .inl (cy 0, 500, .inl v_text))]) (isC := [0, 1]) (isR := []) (pm := [0, 1]) hx hb hml hown hts (c9_here l D cy N h0 h0_text oh0_0 oh0_3 oh0_4 oh0_5 oh0_6 oh0_7 oh0_8 oh0_9 oh0_10 oh0_11 oh0_12 oh0_13 oh0_14 (.int v_at_e0) (.int v_sort) (.int (0 : Int32)) oh0_19 oh0_20 oh0_21 oh0_22 oh0_23 oh0_24 oh0_25 oh0_26 oh0_27 oh0_28 oh0_29 oh0_30 oh0_31 oh0_32 oh0_33 oh0_34 oh0_35 oh0_36 oh0_37 v_typed v_at_68 v_text r69 hc69) (cwV 0 hts gX9_step_X9_here rfl rfl rfl (by decide +kernel) ⟨Nat.le_of_ble_eq_true rfl, Nat.le_of_ble_eq_true rfl⟩) hK hP hD hS hA rfl rfl rfl rfl rfl (by decide) rfl rfl rfl hl.1 (Nat.le_of_ble_eq_true rfl) dX9_step_69 ⟨Nat.zero_le _, Nat.zero_le _⟩ rfl rfl (fun H locs hP hD hS => ?_)
          refine lv_bipush (v := 97) hx hb dX9_step_72 (by decide) ?_
          refine lv_bipush (v := 122) hx hb dX9_step_74 (by decide) ?_
          obtain ⟨r76, hc76, hM⟩ := ob1_some hM
          refine cl_si (As := [.int r69, .int (97 : Int32), .int (122 : Int32)]) (rest := []) (wr := [(h0, .inr (9, [oh0_0, .ref h0_text, .int v_typed, oh0_3, oh0_4, oh0_5, oh0_6, oh0_7, oh0_8, oh0_9, oh0_10, oh0_11, oh0_12, oh0_13, oh0_14, .int v_at_68, .int v_at_e0, .int v_sort, .int (0 : Int32), oh0_19, oh0_20, oh0_21, oh0_22, oh0_23, oh0_24, oh0_25, oh0_26, oh0_27, oh0_28, oh0_29, oh0_30, oh0_31, oh0_32, oh0_33, oh0_34, oh0_35, oh0_36, oh0_37])), (h0_text, .inl (cy 0, 500, .inl v_text))]) (ws2 := [(h0, .inr (9, [oh0_0, .ref h0_text, .int v_typed, oh0_3, oh0_4, oh0_5, oh0_6, oh0_7, oh0_8, oh0_9, oh0_10, oh0_11, oh0_12, oh0_13, oh0_14, .int v_at_68, .int v_at_e0, .int v_sort, .int (0 : Int32), oh0_19, oh0_20, oh0_21, oh0_22, oh0_23, oh0_24, oh0_25, oh0_26, oh0_27, oh0_28, oh0_29, oh0_30, oh0_31, oh0_32, oh0_33, oh0_34, oh0_35, oh0_36, oh0_37])), (h0_text, .inl (cy 0, 500, .inl v_text))]) (isC := []) (isR := [0, 1]) (pm := [0, 1]) hx hb hml hown hts (c9_in l D cy N r69 (97 : Int32) (122 : Int32) r76 hc76) (va_cwS 3 hts gX9_step_X9_in rfl rfl rfl (by decide +kernel) ⟨Nat.le_of_ble_eq_true rfl, Nat.le_of_ble_eq_true rfl⟩) hK hP hD hS hA rfl rfl rfl (by decide) rfl rfl rfl hl.1 (Nat.le_of_ble_eq_true rfl) dX9_step_76 ⟨Nat.zero_le _, Nat.zero_le _⟩ rfl rfl (fun H locs hP hD hS => ?_)
          refine lv_if_eq (tgt := 166) hx hb dX9_step_79 (by decide) (fun c79 => ?_) (fun c79 => ?_)
          · have hM := g_pos c79 hM
            obtain ⟨rfl, rfl, rfl⟩ := si3 hM
            exact K _ _ _ hP hD hS (lv_sub hl [0, 1, 2] rfl)
          · have hM := g_neg c79 hM
            refine lv_aload_n hx hb dX9_step_82 rfl (lv_at hl 0 rfl) ?_
            refine va_get (D := D) (ci := 9) (v := .int v_at_68) (C := RX9) (T := TX9) (N := 38) hx hb hts iX9 hown hK hP 0 rfl rfl 15 (by decide) k106 (fun _ h9 => h9) rfl dX9_step_83 ?_
            refine lv_aload_n hx hb dX9_step_86 rfl (lv_at hl 0 rfl) ?_
            refine va_get (D := D) (ci := 9) (v := .int v_at_e0) (C := RX9) (T := TX9) (N := 38) hx hb hts iX9 hown hK hP 0 rfl rfl 16 (by decide) k114 (fun _ h9 => h9) rfl dX9_step_87 ?_
            refine lv_isub hx hb dX9_step_90 ?_
            refine lv_istore (lv' := [(4, .int (v_at_68 - v_at_e0)), (0, .ref h0), (2, .int x2_68), (3, .int x3_68)]) hx hb dX9_step_91 hl (by decide) rfl (fun ls hl => ?_)
            refine lv_iload hx hb dX9_step_93 (lv_at hl 0 rfl) ?_
            refine lv_bipush (v := 6) hx hb dX9_step_95 (by decide) ?_
            have K116 : ∀ (s0_116 : Int32) (H : Heap) (locs : List Loc) (ls : Array Slot), f9_step_J116 N v_typed v_text v_at_e0 x3_68 v_at_68 (f9_step_L68 N v_typed v_text v_at_e0 n) s0_116 = some (e2_68, e3_68, v_at_e68) → va_P D vwCl [(h0, .inr (9, [oh0_0, .ref h0_text, .int v_typed, oh0_3, oh0_4, oh0_5, oh0_6, oh0_7, oh0_8, oh0_9, oh0_10, oh0_11, oh0_12, oh0_13, oh0_14, .int v_at_68, .int v_at_e0, .int v_sort, .int (0 : Int32), oh0_19, oh0_20, oh0_21, oh0_22, oh0_23, oh0_24, oh0_25, oh0_26, oh0_27, oh0_28, oh0_29, oh0_30, oh0_31, oh0_32, oh0_33, oh0_34, oh0_35, oh0_36, oh0_37])), (h0_text, .inl (cy 0, 500, .inl v_text))] H → va_D A [(h0, .inr (9, [oh0_0, .ref h0_text, .int v_typed, oh0_3, oh0_4, oh0_5, oh0_6, oh0_7, oh0_8, oh0_9, oh0_10, oh0_11, oh0_12, oh0_13, oh0_14, .int v_at_68, .int v_at_e0, .int v_sort, .int (0 : Int32), oh0_19, oh0_20, oh0_21, oh0_22, oh0_23, oh0_24, oh0_25, oh0_26, oh0_27, oh0_28, oh0_29, oh0_30, oh0_31, oh0_32, oh0_33, oh0_34, oh0_35, oh0_36, oh0_37])), (h0_text, .inl (cy 0, 500, .inl v_text))] → va_S A s.heap H locs → lv_has ls 5 [(0, .ref h0), (3, .int x3_68), (4, .int (v_at_68 - v_at_e0))] → W p l e r9_step s m args below meth c H locs 0 0 Q (F0 m 116 ls [.int s0_116]) := by
              intro s0_116 H locs ls hM hP hD hS hl
              unfold f9_step_J116 at hM
              refine lv_istore_n (lv' := [(2, .int s0_116), (0, .ref h0), (3, .int x3_68), (4, .int (v_at_68 - v_at_e0))]) hx hb dX9_step_116 rfl hl (by decide) rfl (fun ls hl => ?_)
              refine lv_iload hx hb dX9_step_117 (lv_at hl 3 rfl) ?_
              refine lv_bipush (v := 6) hx hb dX9_step_119 (by decide) ?_
              refine lv_icmp_ge (tgt := 128) hx hb dX9_step_121 (by decide) (fun c121 => ?_) (fun c121 => ?_)
              · have hM := g_pos c121 hM
                refine lv_iload hx hb dX9_step_128 (lv_at hl 3 rfl) ?_
                refine lv_bipush (v := 8) hx hb dX9_step_130 (by decide) ?_
                refine lv_icmp_ge (tgt := 150) hx hb dX9_step_132 (by decide) (fun c132 => ?_) (fun c132 => ?_)
                · have hM := g_pos c132 hM
                  refine lv_ldc (v := 999999) hx hb hown k123 dX9_step_150 ?_
                  refine lv_istore_n (lv' := [(3, .int (999999 : Int32)), (2, .int s0_116), (0, .ref h0), (4, .int (v_at_68 - v_at_e0))]) hx hb dX9_step_152 rfl hl (by decide) rfl (fun ls hl => ?_)
                  refine lv_aload_n hx hb dX9_step_153 rfl (lv_at hl 2 rfl) ?_
                  refine lv_dup hx hb dX9_step_154 rfl ?_
                  refine va_get (D := D) (ci := 9) (v := .int v_at_68) (C := RX9) (T := TX9) (N := 38) hx hb hts iX9 hown hK hP 0 rfl rfl 15 (by decide) k106 (fun _ h9 => h9) rfl dX9_step_155 ?_
                  refine lv_iconst (v := 1) hx hb dX9_step_158 (by decide) ?_
                  refine lv_iadd hx hb dX9_step_159 ?_
                  refine va_put (D := D) (ci := 9) (v := .int (v_at_68 + (1 : Int32))) (ty := .int) (C := RX9) (T := TX9) (N := 38) hx hb hts iX9 tyX9 tyX9_ok nmX9 hown hK hP hD hS 0 rfl rfl 15 (by decide) k106 (fun _ h9 => h9) rfl (by decide +kernel) rfl rfl (Nat.le_of_ble_eq_true rfl) dX9_step_160 (fun H locs hP hD hS => ?_)
                  have hP : va_P D vwCl [(h0, .inr (9, [oh0_0, .ref h0_text, .int v_typed, oh0_3, oh0_4, oh0_5, oh0_6, oh0_7, oh0_8, oh0_9, oh0_10, oh0_11, oh0_12, oh0_13, oh0_14, .int (v_at_68 + (1 : Int32)), .int v_at_e0, .int v_sort, .int (0 : Int32), oh0_19, oh0_20, oh0_21, oh0_22, oh0_23, oh0_24, oh0_25, oh0_26, oh0_27, oh0_28, oh0_29, oh0_30, oh0_31, oh0_32, oh0_33, oh0_34, oh0_35, oh0_36, oh0_37])), (h0_text, .inl (cy 0, 500, .inl v_text))] H := hP
                  have hD : va_D A [(h0, .inr (9, [oh0_0, .ref h0_text, .int v_typed, oh0_3, oh0_4, oh0_5, oh0_6, oh0_7, oh0_8, oh0_9, oh0_10, oh0_11, oh0_12, oh0_13, oh0_14, .int (v_at_68 + (1 : Int32)), .int v_at_e0, .int v_sort, .int (0 : Int32), oh0_19, oh0_20, oh0_21, oh0_22, oh0_23, oh0_24, oh0_25, oh0_26, oh0_27, oh0_28, oh0_29, oh0_30, oh0_31, oh0_32, oh0_33, oh0_34, oh0_35, oh0_36, oh0_37])), (h0_text, .inl (cy 0, 500, .inl v_text))] := hD
                  refine lv_goto (tgt := 68) hx hb dX9_step_163 (by decide) ?_
                  exact ih s0_116 (999999 : Int32) (v_at_68 + (1 : Int32)) e2_68 e3_68 v_at_e68 _ _ _ hM hP hD hS (lv_sub hl [2, 1, 0] rfl) K
                · have hM := g_neg c132 hM
                  refine lv_bipush (v := 27) hx hb dX9_step_135 (by decide) ?_
                  refine lv_iload_n hx hb dX9_step_137 rfl (lv_at hl 2 rfl) ?_
                  refine lv_imul hx hb dX9_step_138 ?_
                  refine lv_aload_n hx hb dX9_step_139 rfl (lv_at hl 1 rfl) ?_
                  obtain ⟨r140, hc140, hM⟩ := ob1_some hM
                  refine cl_vi (As := []) (rest := [.int ((27 : Int32) * x3_68)]) (ci := 9) (q0 := 0) (wr := []) (ws2 := [(h0, .inr (9, [oh0_0, .ref h0_text, .int v_typed, oh0_3, oh0_4, oh0_5, oh0_6, oh0_7, oh0_8, oh0_9, oh0_10, oh0_11, oh0_12, oh0_13, oh0_14, .int v_at_68, .int v_at_e0, .int v_sort, .int (0 : Int32), oh0_19, oh0_20, oh0_21, oh0_22, oh0_23, oh0_24, oh0_25, oh0_26, oh0_27, oh0_28, oh0_29, oh0_30, oh0_31, oh0_32, oh0_33, oh0_34, oh0_35, oh0_36, oh0_37])), (h0_text, .inl (cy 0, 500, .inl v_text))]) (isC := [0, 1]) (isR := []) (pm := [0, 1]) hx hb hml hown hts (c9_here l D cy N h0 h0_text oh0_0 oh0_3 oh0_4 oh0_5 oh0_6 oh0_7 oh0_8 oh0_9 oh0_10 oh0_11 oh0_12 oh0_13 oh0_14 (.int v_at_e0) (.int v_sort) (.int (0 : Int32)) oh0_19 oh0_20 oh0_21 oh0_22 oh0_23 oh0_24 oh0_25 oh0_26 oh0_27 oh0_28 oh0_29 oh0_30 oh0_31 oh0_32 oh0_33 oh0_34 oh0_35 oh0_36 oh0_37 v_typed v_at_68 v_text r140 hc140) (cwV 0 hts gX9_step_X9_here rfl rfl rfl (by decide +kernel) ⟨Nat.le_of_ble_eq_true rfl, Nat.le_of_ble_eq_true rfl⟩) hK hP hD hS hA rfl rfl rfl rfl rfl (by decide) rfl rfl rfl hl.1 (Nat.le_of_ble_eq_true rfl) dX9_step_140 ⟨Nat.zero_le _, Nat.zero_le _⟩ rfl rfl (fun H locs hP hD hS => ?_)
                  refine lv_iadd hx hb dX9_step_143 ?_
                  refine lv_bipush (v := 96) hx hb dX9_step_144 (by decide) ?_
                  refine lv_isub hx hb dX9_step_146 ?_
                  refine lv_goto (tgt := 152) hx hb dX9_step_147 (by decide) ?_
                  refine lv_istore_n (lv' := [(3, .int ((((27 : Int32) * x3_68) + r140) - (96 : Int32))), (2, .int s0_116), (0, .ref h0), (4, .int (v_at_68 - v_at_e0))]) hx hb dX9_step_152 rfl hl (by decide) rfl (fun ls hl => ?_)
                  refine lv_aload_n hx hb dX9_step_153 rfl (lv_at hl 2 rfl) ?_
                  refine lv_dup hx hb dX9_step_154 rfl ?_
                  refine va_get (D := D) (ci := 9) (v := .int v_at_68) (C := RX9) (T := TX9) (N := 38) hx hb hts iX9 hown hK hP 0 rfl rfl 15 (by decide) k106 (fun _ h9 => h9) rfl dX9_step_155 ?_
                  refine lv_iconst (v := 1) hx hb dX9_step_158 (by decide) ?_
                  refine lv_iadd hx hb dX9_step_159 ?_
                  refine va_put (D := D) (ci := 9) (v := .int (v_at_68 + (1 : Int32))) (ty := .int) (C := RX9) (T := TX9) (N := 38) hx hb hts iX9 tyX9 tyX9_ok nmX9 hown hK hP hD hS 0 rfl rfl 15 (by decide) k106 (fun _ h9 => h9) rfl (by decide +kernel) rfl rfl (Nat.le_of_ble_eq_true rfl) dX9_step_160 (fun H locs hP hD hS => ?_)
                  have hP : va_P D vwCl [(h0, .inr (9, [oh0_0, .ref h0_text, .int v_typed, oh0_3, oh0_4, oh0_5, oh0_6, oh0_7, oh0_8, oh0_9, oh0_10, oh0_11, oh0_12, oh0_13, oh0_14, .int (v_at_68 + (1 : Int32)), .int v_at_e0, .int v_sort, .int (0 : Int32), oh0_19, oh0_20, oh0_21, oh0_22, oh0_23, oh0_24, oh0_25, oh0_26, oh0_27, oh0_28, oh0_29, oh0_30, oh0_31, oh0_32, oh0_33, oh0_34, oh0_35, oh0_36, oh0_37])), (h0_text, .inl (cy 0, 500, .inl v_text))] H := hP
                  have hD : va_D A [(h0, .inr (9, [oh0_0, .ref h0_text, .int v_typed, oh0_3, oh0_4, oh0_5, oh0_6, oh0_7, oh0_8, oh0_9, oh0_10, oh0_11, oh0_12, oh0_13, oh0_14, .int (v_at_68 + (1 : Int32)), .int v_at_e0, .int v_sort, .int (0 : Int32), oh0_19, oh0_20, oh0_21, oh0_22, oh0_23, oh0_24, oh0_25, oh0_26, oh0_27, oh0_28, oh0_29, oh0_30, oh0_31, oh0_32, oh0_33, oh0_34, oh0_35, oh0_36, oh0_37])), (h0_text, .inl (cy 0, 500, .inl v_text))] := hD
                  refine lv_goto (tgt := 68) hx hb dX9_step_163 (by decide) ?_
                  exact ih s0_116 ((((27 : Int32) * x3_68) + r140) - (96 : Int32)) (v_at_68 + (1 : Int32)) e2_68 e3_68 v_at_e68 _ _ _ hM hP hD hS (lv_sub hl [2, 1, 0] rfl) K
              · have hM := g_neg c121 hM
                refine lv_iload_n hx hb dX9_step_124 rfl (lv_at hl 2 rfl) ?_
                refine lv_goto (tgt := 152) hx hb dX9_step_125 (by decide) ?_
                refine lv_istore_n (lv' := [(3, .int x3_68), (2, .int s0_116), (0, .ref h0), (4, .int (v_at_68 - v_at_e0))]) hx hb dX9_step_152 rfl hl (by decide) rfl (fun ls hl => ?_)
                refine lv_aload_n hx hb dX9_step_153 rfl (lv_at hl 2 rfl) ?_
                refine lv_dup hx hb dX9_step_154 rfl ?_
                refine va_get (D := D) (ci := 9) (v := .int v_at_68) (C := RX9) (T := TX9) (N := 38) hx hb hts iX9 hown hK hP 0 rfl rfl 15 (by decide) k106 (fun _ h9 => h9) rfl dX9_step_155 ?_
                refine lv_iconst (v := 1) hx hb dX9_step_158 (by decide) ?_
                refine lv_iadd hx hb dX9_step_159 ?_
                refine va_put (D := D) (ci := 9) (v := .int (v_at_68 + (1 : Int32))) (ty := .int) (C := RX9) (T := TX9) (N := 38) hx hb hts iX9 tyX9 tyX9_ok nmX9 hown hK hP hD hS 0 rfl rfl 15 (by decide) k106 (fun _ h9 => h9) rfl (by decide +kernel) rfl rfl (Nat.le_of_ble_eq_true rfl) dX9_step_160 (fun H locs hP hD hS => ?_)
                have hP : va_P D vwCl [(h0, .inr (9, [oh0_0, .ref h0_text, .int v_typed, oh0_3, oh0_4, oh0_5, oh0_6, oh0_7, oh0_8, oh0_9, oh0_10, oh0_11, oh0_12, oh0_13, oh0_14, .int (v_at_68 + (1 : Int32)), .int v_at_e0, .int v_sort, .int (0 : Int32), oh0_19, oh0_20, oh0_21, oh0_22, oh0_23, oh0_24, oh0_25, oh0_26, oh0_27, oh0_28, oh0_29, oh0_30, oh0_31, oh0_32, oh0_33, oh0_34, oh0_35, oh0_36, oh0_37])), (h0_text, .inl (cy 0, 500, .inl v_text))] H := hP
                have hD : va_D A [(h0, .inr (9, [oh0_0, .ref h0_text, .int v_typed, oh0_3, oh0_4, oh0_5, oh0_6, oh0_7, oh0_8, oh0_9, oh0_10, oh0_11, oh0_12, oh0_13, oh0_14, .int (v_at_68 + (1 : Int32)), .int v_at_e0, .int v_sort, .int (0 : Int32), oh0_19, oh0_20, oh0_21, oh0_22, oh0_23, oh0_24, oh0_25, oh0_26, oh0_27, oh0_28, oh0_29, oh0_30, oh0_31, oh0_32, oh0_33, oh0_34, oh0_35, oh0_36, oh0_37])), (h0_text, .inl (cy 0, 500, .inl v_text))] := hD
                refine lv_goto (tgt := 68) hx hb dX9_step_163 (by decide) ?_
                exact ih s0_116 x3_68 (v_at_68 + (1 : Int32)) e2_68 e3_68 v_at_e68 _ _ _ hM hP hD hS (lv_sub hl [2, 1, 0] rfl) K
            refine lv_icmp_ge (tgt := 115) hx hb dX9_step_97 (by decide) (fun c97 => ?_) (fun c97 => ?_)
            · have hM := g_pos c97 hM
              refine lv_iload_n hx hb dX9_step_115 rfl (lv_at hl 2 rfl) ?_
              exact K116 x2_68 _ _ _ hM hP hD hS (lv_sub hl [1, 3, 0] rfl)
            · have hM := g_neg c97 hM
              refine lv_bipush (v := 27) hx hb dX9_step_100 (by decide) ?_
              refine lv_iload_n hx hb dX9_step_102 rfl (lv_at hl 2 rfl) ?_
              refine lv_imul hx hb dX9_step_103 ?_
              refine lv_aload_n hx hb dX9_step_104 rfl (lv_at hl 1 rfl) ?_
              obtain ⟨r105, hc105, hM⟩ := ob1_some hM
              refine cl_vi (As := []) (rest := [.int ((27 : Int32) * x2_68)]) (ci := 9) (q0 := 0) (wr := []) (ws2 := [(h0, .inr (9, [oh0_0, .ref h0_text, .int v_typed, oh0_3, oh0_4, oh0_5, oh0_6, oh0_7, oh0_8, oh0_9, oh0_10, oh0_11, oh0_12, oh0_13, oh0_14, .int v_at_68, .int v_at_e0, .int v_sort, .int (0 : Int32), oh0_19, oh0_20, oh0_21, oh0_22, oh0_23, oh0_24, oh0_25, oh0_26, oh0_27, oh0_28, oh0_29, oh0_30, oh0_31, oh0_32, oh0_33, oh0_34, oh0_35, oh0_36, oh0_37])), (h0_text, .inl (cy 0, 500, .inl v_text))]) (isC := [0, 1]) (isR := []) (pm := [0, 1]) hx hb hml hown hts (c9_here l D cy N h0 h0_text oh0_0 oh0_3 oh0_4 oh0_5 oh0_6 oh0_7 oh0_8 oh0_9 oh0_10 oh0_11 oh0_12 oh0_13 oh0_14 (.int v_at_e0) (.int v_sort) (.int (0 : Int32)) oh0_19 oh0_20 oh0_21 oh0_22 oh0_23 oh0_24 oh0_25 oh0_26 oh0_27 oh0_28 oh0_29 oh0_30 oh0_31 oh0_32 oh0_33 oh0_34 oh0_35 oh0_36 oh0_37 v_typed v_at_68 v_text r105 hc105) (cwV 0 hts gX9_step_X9_here rfl rfl rfl (by decide +kernel) ⟨Nat.le_of_ble_eq_true rfl, Nat.le_of_ble_eq_true rfl⟩) hK hP hD hS hA rfl rfl rfl rfl rfl (by decide) rfl rfl rfl hl.1 (Nat.le_of_ble_eq_true rfl) dX9_step_105 ⟨Nat.zero_le _, Nat.zero_le _⟩ rfl rfl (fun H locs hP hD hS => ?_)
              refine lv_iadd hx hb dX9_step_108 ?_
              refine lv_bipush (v := 96) hx hb dX9_step_109 (by decide) ?_
              refine lv_isub hx hb dX9_step_111 ?_
              refine lv_goto (tgt := 116) hx hb dX9_step_112 (by decide) ?_
              exact K116 ((((27 : Int32) * x2_68) + r105) - (96 : Int32)) _ _ _ hM hP hD hS (lv_sub hl [1, 3, 0] rfl)
      obtain ⟨e2_68, e3_68, v_at_e68, hL68, hM⟩ := ob3_some hM
      refine L68 N (0 : Int32) (0 : Int32) v_at_e0 e2_68 e3_68 v_at_e68 _ _ _ hL68 hP hD hS (lv_sub hl [3, 1, 0] rfl) ?_
      intro H locs ls hP hD hS hl
      refine lv_aload_n hx hb dX9_step_166 rfl (lv_at hl 0 rfl) ?_
      refine lv_iload_n hx hb dX9_step_167 rfl (lv_at hl 1 rfl) ?_
      refine lv_iload_n hx hb dX9_step_168 rfl (lv_at hl 2 rfl) ?_
      obtain ⟨r169, hc169, hM⟩ := ob1_some hM
      refine cl_si (As := [.int e2_68, .int e3_68]) (rest := [.ref h0]) (wr := [(h0, .inr (9, [oh0_0, .ref h0_text, .int v_typed, oh0_3, oh0_4, oh0_5, oh0_6, oh0_7, oh0_8, oh0_9, oh0_10, oh0_11, oh0_12, oh0_13, oh0_14, .int v_at_e68, .int v_at_e0, .int v_sort, .int (0 : Int32), oh0_19, oh0_20, oh0_21, oh0_22, oh0_23, oh0_24, oh0_25, oh0_26, oh0_27, oh0_28, oh0_29, oh0_30, oh0_31, oh0_32, oh0_33, oh0_34, oh0_35, oh0_36, oh0_37])), (h0_text, .inl (cy 0, 500, .inl v_text))]) (ws2 := [(h0, .inr (9, [oh0_0, .ref h0_text, .int v_typed, oh0_3, oh0_4, oh0_5, oh0_6, oh0_7, oh0_8, oh0_9, oh0_10, oh0_11, oh0_12, oh0_13, oh0_14, .int v_at_e68, .int v_at_e0, .int v_sort, .int (0 : Int32), oh0_19, oh0_20, oh0_21, oh0_22, oh0_23, oh0_24, oh0_25, oh0_26, oh0_27, oh0_28, oh0_29, oh0_30, oh0_31, oh0_32, oh0_33, oh0_34, oh0_35, oh0_36, oh0_37])), (h0_text, .inl (cy 0, 500, .inl v_text))]) (isC := []) (isR := [0, 1]) (pm := [0, 1]) hx hb hml hown hts (c9_meaning l D cy N e2_68 e3_68 r169 hc169) (va_cwS 2 hts gX9_step_X9_meaning rfl rfl rfl (by decide +kernel) ⟨Nat.le_of_ble_eq_true rfl, Nat.le_of_ble_eq_true rfl⟩) hK hP hD hS hA rfl rfl rfl (by decide) rfl rfl rfl hl.1 (Nat.le_of_ble_eq_true rfl) dX9_step_169 ⟨Nat.zero_le _, Nat.zero_le _⟩ rfl rfl (fun H locs hP hD hS => ?_)
      refine va_put (D := D) (ci := 9) (v := .int r169) (ty := .int) (C := RX9) (T := TX9) (N := 38) hx hb hts iX9 tyX9 tyX9_ok nmX9 hown hK hP hD hS 0 rfl rfl 17 (by decide) k120 (fun _ h9 => h9) rfl (by decide +kernel) rfl rfl (Nat.le_of_ble_eq_true rfl) dX9_step_172 (fun H locs hP hD hS => ?_)
      have hP : va_P D vwCl [(h0, .inr (9, [oh0_0, .ref h0_text, .int v_typed, oh0_3, oh0_4, oh0_5, oh0_6, oh0_7, oh0_8, oh0_9, oh0_10, oh0_11, oh0_12, oh0_13, oh0_14, .int v_at_e68, .int v_at_e0, .int r169, .int (0 : Int32), oh0_19, oh0_20, oh0_21, oh0_22, oh0_23, oh0_24, oh0_25, oh0_26, oh0_27, oh0_28, oh0_29, oh0_30, oh0_31, oh0_32, oh0_33, oh0_34, oh0_35, oh0_36, oh0_37])), (h0_text, .inl (cy 0, 500, .inl v_text))] H := hP
      have hD : va_D A [(h0, .inr (9, [oh0_0, .ref h0_text, .int v_typed, oh0_3, oh0_4, oh0_5, oh0_6, oh0_7, oh0_8, oh0_9, oh0_10, oh0_11, oh0_12, oh0_13, oh0_14, .int v_at_e68, .int v_at_e0, .int r169, .int (0 : Int32), oh0_19, oh0_20, oh0_21, oh0_22, oh0_23, oh0_24, oh0_25, oh0_26, oh0_27, oh0_28, oh0_29, oh0_30, oh0_31, oh0_32, oh0_33, oh0_34, oh0_35, oh0_36, oh0_37])), (h0_text, .inl (cy 0, 500, .inl v_text))] := hD
      refine lv_goto (tgt := 290) hx hb dX9_step_175 (by decide) ?_
      obtain ⟨rfl, rfl, rfl, rfl⟩ := si4 hM
      exact hret _ _ _ _ dX9_step_290 hP hD hS
  · have hM := g_neg c41 hM
    refine lv_aload_n hx hb dX9_step_44 rfl (lv_at hl 1 rfl) ?_
    refine lv_bipush (v := 8) hx hb dX9_step_45 (by decide) ?_
    refine va_put (D := D) (ci := 9) (v := .int (8 : Int32)) (ty := .int) (C := RX9) (T := TX9) (N := 38) hx hb hts iX9 tyX9 tyX9_ok nmX9 hown hK hP hD hS 0 rfl rfl 17 (by decide) k120 (fun _ h9 => h9) rfl (by decide +kernel) rfl rfl (Nat.le_of_ble_eq_true rfl) dX9_step_47 (fun H locs hP hD hS => ?_)
    have hP : va_P D vwCl [(h0, .inr (9, [oh0_0, .ref h0_text, .int v_typed, oh0_3, oh0_4, oh0_5, oh0_6, oh0_7, oh0_8, oh0_9, oh0_10, oh0_11, oh0_12, oh0_13, oh0_14, .int v_at_e0, .int v_at_e0, .int (8 : Int32), .int (0 : Int32), oh0_19, oh0_20, oh0_21, oh0_22, oh0_23, oh0_24, oh0_25, oh0_26, oh0_27, oh0_28, oh0_29, oh0_30, oh0_31, oh0_32, oh0_33, oh0_34, oh0_35, oh0_36, oh0_37])), (h0_text, .inl (cy 0, 500, .inl v_text))] H := hP
    have hD : va_D A [(h0, .inr (9, [oh0_0, .ref h0_text, .int v_typed, oh0_3, oh0_4, oh0_5, oh0_6, oh0_7, oh0_8, oh0_9, oh0_10, oh0_11, oh0_12, oh0_13, oh0_14, .int v_at_e0, .int v_at_e0, .int (8 : Int32), .int (0 : Int32), oh0_19, oh0_20, oh0_21, oh0_22, oh0_23, oh0_24, oh0_25, oh0_26, oh0_27, oh0_28, oh0_29, oh0_30, oh0_31, oh0_32, oh0_33, oh0_34, oh0_35, oh0_36, oh0_37])), (h0_text, .inl (cy 0, 500, .inl v_text))] := hD
    refine lv_goto (tgt := 290) hx hb dX9_step_50 (by decide) ?_
    obtain ⟨rfl, rfl, rfl, rfl⟩ := si4 hM
    exact hret _ _ _ _ dX9_step_290 hP hD hS

-- ===== X9_fails fails (I)V =====
abbrev r9_fails : Room := { frames := 0, cells := 0, slots := 0, locals := 0 }
def f9_fails (N : Nat) (p1 : Int32) (v_start : Int32) (v_fault : Int32) (v_faultAt : Int32) : Option (Int32 × Int32) :=
  if v_fault = (0 : Int32) then (some (p1, v_start)) else (some (v_fault, v_faultAt))
set_option maxHeartbeats 4000000 in
set_option maxRecDepth 100000 in
theorem c9_fails (l : Launch) (D : va_G) (cy : Nat → ClassId) (N : Nat) (h0 : Nat) (oh0_0 oh0_1 oh0_2 oh0_3 oh0_4 oh0_5 oh0_6 oh0_7 oh0_8 oh0_9 oh0_10 oh0_11 oh0_12 oh0_13 oh0_14 oh0_15 oh0_17 oh0_18 oh0_21 oh0_22 oh0_23 oh0_24 oh0_25 oh0_26 oh0_27 oh0_28 oh0_29 oh0_30 oh0_31 oh0_32 oh0_33 oh0_34 oh0_35 oh0_36 oh0_37 : Value) (p1 : Int32) (v_start : Int32) (v_fault : Int32) (v_faultAt : Int32) (nv_fault : Int32) (nv_faultAt : Int32) (hM : f9_fails N p1 v_start v_fault v_faultAt = some (nv_fault, nv_faultAt)) (sz : Nat) : CTv l yX9_fails wsX9_fails r9_fails [.ref h0, .int p1] D cy sz [(h0, .inr (9, [oh0_0, oh0_1, oh0_2, oh0_3, oh0_4, oh0_5, oh0_6, oh0_7, oh0_8, oh0_9, oh0_10, oh0_11, oh0_12, oh0_13, oh0_14, oh0_15, .int v_start, oh0_17, oh0_18, .int v_fault, .int v_faultAt, oh0_21, oh0_22, oh0_23, oh0_24, oh0_25, oh0_26, oh0_27, oh0_28, oh0_29, oh0_30, oh0_31, oh0_32, oh0_33, oh0_34, oh0_35, oh0_36, oh0_37]))] [(h0, .inr (9, [oh0_0, oh0_1, oh0_2, oh0_3, oh0_4, oh0_5, oh0_6, oh0_7, oh0_8, oh0_9, oh0_10, oh0_11, oh0_12, oh0_13, oh0_14, oh0_15, .int v_start, oh0_17, oh0_18, .int nv_fault, .int nv_faultAt, oh0_21, oh0_22, oh0_23, oh0_24, oh0_25, oh0_26, oh0_27, oh0_28, oh0_29, oh0_30, oh0_31, oh0_32, oh0_33, oh0_34, oh0_35, oh0_36, oh0_37]))] := by
  unfold f9_fails at hM
  refine ct_ov (cc := cX9_fails) (maxL := 2)  (by decide +kernel) rfl (Nat.le_of_ble_eq_true rfl) (lv0 := [(0, .ref h0), (1, .int p1)]) rfl ?_
  intro p e s m args below meth c A Q ls hx hb hts hown hml hK hP hD hS hA hret hl
  have hown : s.vm.findClass RX9 = some m.cls := hown
  have k128 := hts (.fieldLink RX9 128 "CaveYearsModel" "fault" "I") (List.mem_of_getElem? (i := 1) rfl)
  have iX9 := (fun w h => (List.mem_cons_of_mem _ (List.mem_append_right _ h)) : ∀ w ∈ wsX90, w ∈ wsX9_fails)
  have k114 := hts (.fieldLink RX9 114 "CaveYearsModel" "start" "I") (List.mem_of_getElem? (i := 2) rfl)
  have k91 := hts (.fieldLink RX9 91 "CaveYearsModel" "faultAt" "I") (List.mem_of_getElem? (i := 3) rfl)
  refine lv_aload_n hx hb dX9_fails_0 rfl (lv_at hl 0 rfl) ?_
  refine va_get (D := D) (ci := 9) (v := .int v_fault) (C := RX9) (T := TX9) (N := 38) hx hb hts iX9 hown hK hP 0 rfl rfl 19 (by decide) k128 (fun _ h9 => h9) rfl dX9_fails_1 ?_
  refine lv_if_ne (tgt := 20) hx hb dX9_fails_4 (by decide) (fun c4 => ?_) (fun c4 => ?_)
  · have hM := g_neg c4 hM
    obtain ⟨rfl, rfl⟩ := si2 hM
    exact hret _ _ _ _ dX9_fails_20 hP hD hS
  · have hM := g_pos c4 hM
    refine lv_aload_n hx hb dX9_fails_7 rfl (lv_at hl 0 rfl) ?_
    refine lv_iload_n hx hb dX9_fails_8 rfl (lv_at hl 1 rfl) ?_
    refine va_put (D := D) (ci := 9) (v := .int p1) (ty := .int) (C := RX9) (T := TX9) (N := 38) hx hb hts iX9 tyX9 tyX9_ok nmX9 hown hK hP hD hS 0 rfl rfl 19 (by decide) k128 (fun _ h9 => h9) rfl (by decide +kernel) rfl rfl (Nat.le_of_ble_eq_true rfl) dX9_fails_9 (fun H locs hP hD hS => ?_)
    have hP : va_P D vwCl [(h0, .inr (9, [oh0_0, oh0_1, oh0_2, oh0_3, oh0_4, oh0_5, oh0_6, oh0_7, oh0_8, oh0_9, oh0_10, oh0_11, oh0_12, oh0_13, oh0_14, oh0_15, .int v_start, oh0_17, oh0_18, .int p1, .int v_faultAt, oh0_21, oh0_22, oh0_23, oh0_24, oh0_25, oh0_26, oh0_27, oh0_28, oh0_29, oh0_30, oh0_31, oh0_32, oh0_33, oh0_34, oh0_35, oh0_36, oh0_37]))] H := hP
    have hD : va_D A [(h0, .inr (9, [oh0_0, oh0_1, oh0_2, oh0_3, oh0_4, oh0_5, oh0_6, oh0_7, oh0_8, oh0_9, oh0_10, oh0_11, oh0_12, oh0_13, oh0_14, oh0_15, .int v_start, oh0_17, oh0_18, .int p1, .int v_faultAt, oh0_21, oh0_22, oh0_23, oh0_24, oh0_25, oh0_26, oh0_27, oh0_28, oh0_29, oh0_30, oh0_31, oh0_32, oh0_33, oh0_34, oh0_35, oh0_36, oh0_37]))] := hD
    refine lv_aload_n hx hb dX9_fails_12 rfl (lv_at hl 0 rfl) ?_
    refine lv_aload_n hx hb dX9_fails_13 rfl (lv_at hl 0 rfl) ?_
    refine va_get (D := D) (ci := 9) (v := .int v_start) (C := RX9) (T := TX9) (N := 38) hx hb hts iX9 hown hK hP 0 rfl rfl 16 (by decide) k114 (fun _ h9 => h9) rfl dX9_fails_14 ?_
    refine va_put (D := D) (ci := 9) (v := .int v_start) (ty := .int) (C := RX9) (T := TX9) (N := 38) hx hb hts iX9 tyX9 tyX9_ok nmX9 hown hK hP hD hS 0 rfl rfl 20 (by decide) k91 (fun _ h9 => h9) rfl (by decide +kernel) rfl rfl (Nat.le_of_ble_eq_true rfl) dX9_fails_17 (fun H locs hP hD hS => ?_)
    have hP : va_P D vwCl [(h0, .inr (9, [oh0_0, oh0_1, oh0_2, oh0_3, oh0_4, oh0_5, oh0_6, oh0_7, oh0_8, oh0_9, oh0_10, oh0_11, oh0_12, oh0_13, oh0_14, oh0_15, .int v_start, oh0_17, oh0_18, .int p1, .int v_start, oh0_21, oh0_22, oh0_23, oh0_24, oh0_25, oh0_26, oh0_27, oh0_28, oh0_29, oh0_30, oh0_31, oh0_32, oh0_33, oh0_34, oh0_35, oh0_36, oh0_37]))] H := hP
    have hD : va_D A [(h0, .inr (9, [oh0_0, oh0_1, oh0_2, oh0_3, oh0_4, oh0_5, oh0_6, oh0_7, oh0_8, oh0_9, oh0_10, oh0_11, oh0_12, oh0_13, oh0_14, oh0_15, .int v_start, oh0_17, oh0_18, .int p1, .int v_start, oh0_21, oh0_22, oh0_23, oh0_24, oh0_25, oh0_26, oh0_27, oh0_28, oh0_29, oh0_30, oh0_31, oh0_32, oh0_33, oh0_34, oh0_35, oh0_36, oh0_37]))] := hD
    obtain ⟨rfl, rfl⟩ := si2 hM
    exact hret _ _ _ _ dX9_fails_20 hP hD hS

-- ===== X9_number number (II)I =====
abbrev r9_number : Room := { frames := 2, cells := 0, slots := 0, locals := 46 }
def f9_number (N : Nat) (p1 : Int32) (p2 : Int32) (v_typed : Int32) (v_at : Int32) (v_start : Int32) (v_sort : Int32) (v_value : Int32) (v_fault : Int32) (v_faultAt : Int32) (v_text : Nat → Int32) : Option (Int32 × Int32 × Int32 × Int32 × Int32 × Int32 × Int32) :=
  if v_fault = (0 : Int32) then (if v_sort = (6 : Int32) then (ob1 (f9_in N v_value p1 p2) fun r35 => if r35 = (0 : Int32) then (ob2 (f9_fails N (2 : Int32) v_start v_fault v_faultAt) fun v_fault_43 v_faultAt_43 => some (v_value, v_at, v_start, v_sort, v_value, v_fault_43, v_faultAt_43)) else (ob4 (f9_step N v_typed v_at v_start v_sort v_value v_text) fun v_at_50 v_start_50 v_sort_50 v_value_50 => some (v_value, v_at_50, v_start_50, v_sort_50, v_value_50, v_fault, v_faultAt))) else (ob2 (f9_fails N (1 : Int32) v_start v_fault v_faultAt) fun v_fault_23 v_faultAt_23 => some (v_value, v_at, v_start, v_sort, v_value, v_fault_23, v_faultAt_23))) else (some (v_value, v_at, v_start, v_sort, v_value, v_fault, v_faultAt))
set_option maxHeartbeats 4000000 in
set_option maxRecDepth 100000 in
theorem c9_number (l : Launch) (D : va_G) (cy : Nat → ClassId) (N : Nat) (h0 h0_text : Nat) (oh0_0 oh0_3 oh0_4 oh0_5 oh0_6 oh0_7 oh0_8 oh0_9 oh0_10 oh0_11 oh0_12 oh0_13 oh0_14 oh0_21 oh0_22 oh0_23 oh0_24 oh0_25 oh0_26 oh0_27 oh0_28 oh0_29 oh0_30 oh0_31 oh0_32 oh0_33 oh0_34 oh0_35 oh0_36 oh0_37 : Value) (p1 : Int32) (p2 : Int32) (v_typed : Int32) (v_at : Int32) (v_start : Int32) (v_sort : Int32) (v_value : Int32) (v_fault : Int32) (v_faultAt : Int32) (v_text : Nat → Int32) (r : Int32) (nv_at : Int32) (nv_start : Int32) (nv_sort : Int32) (nv_value : Int32) (nv_fault : Int32) (nv_faultAt : Int32) (hM : f9_number N p1 p2 v_typed v_at v_start v_sort v_value v_fault v_faultAt v_text = some (r, nv_at, nv_start, nv_sort, nv_value, nv_fault, nv_faultAt)) (sz : Nat) : CTi l yX9_number wsX9_number r9_number [.ref h0, .int p1, .int p2] D cy sz [(h0, .inr (9, [oh0_0, .ref h0_text, .int v_typed, oh0_3, oh0_4, oh0_5, oh0_6, oh0_7, oh0_8, oh0_9, oh0_10, oh0_11, oh0_12, oh0_13, oh0_14, .int v_at, .int v_start, .int v_sort, .int v_value, .int v_fault, .int v_faultAt, oh0_21, oh0_22, oh0_23, oh0_24, oh0_25, oh0_26, oh0_27, oh0_28, oh0_29, oh0_30, oh0_31, oh0_32, oh0_33, oh0_34, oh0_35, oh0_36, oh0_37])), (h0_text, .inl (cy 0, 500, .inl v_text))] [(h0, .inr (9, [oh0_0, .ref h0_text, .int v_typed, oh0_3, oh0_4, oh0_5, oh0_6, oh0_7, oh0_8, oh0_9, oh0_10, oh0_11, oh0_12, oh0_13, oh0_14, .int nv_at, .int nv_start, .int nv_sort, .int nv_value, .int nv_fault, .int nv_faultAt, oh0_21, oh0_22, oh0_23, oh0_24, oh0_25, oh0_26, oh0_27, oh0_28, oh0_29, oh0_30, oh0_31, oh0_32, oh0_33, oh0_34, oh0_35, oh0_36, oh0_37])), (h0_text, .inl (cy 0, 500, .inl v_text))] r := by
  unfold f9_number at hM
  refine ct_oi (cc := cX9_number) (maxL := 4) (ty := .int) (by decide +kernel) rfl (Nat.le_of_ble_eq_true rfl) (lv0 := [(0, .ref h0), (1, .int p1), (2, .int p2)]) rfl ?_
  intro p e s m args below meth c A Q ls hx hb hts hown hml hK hP hD hS hA hret hl
  have hown : s.vm.findClass RX9 = some m.cls := hown
  have k117 := hts (.fieldLink RX9 117 "CaveYearsModel" "value" "I") (List.mem_of_getElem? (i := 1) rfl)
  have iX9 := (fun w h => (List.mem_cons_of_mem _ (List.mem_append_right _ h)) : ∀ w ∈ wsX90, w ∈ wsX9_number)
  have k128 := hts (.fieldLink RX9 128 "CaveYearsModel" "fault" "I") (List.mem_of_getElem? (i := 2) rfl)
  have k120 := hts (.fieldLink RX9 120 "CaveYearsModel" "sort" "I") (List.mem_of_getElem? (i := 3) rfl)
  refine lv_aload_n hx hb dX9_number_0 rfl (lv_at hl 0 rfl) ?_
  refine va_get (D := D) (ci := 9) (v := .int v_value) (C := RX9) (T := TX9) (N := 38) hx hb hts iX9 hown hK hP 0 rfl rfl 18 (by decide) k117 (fun _ h9 => h9) rfl dX9_number_1 ?_
  refine lv_istore_n (lv' := [(3, .int v_value), (0, .ref h0), (1, .int p1), (2, .int p2)]) hx hb dX9_number_4 rfl hl (by decide) rfl (fun ls hl => ?_)
  refine lv_aload_n hx hb dX9_number_5 rfl (lv_at hl 1 rfl) ?_
  refine va_get (D := D) (ci := 9) (v := .int v_fault) (C := RX9) (T := TX9) (N := 38) hx hb hts iX9 hown hK hP 0 rfl rfl 19 (by decide) k128 (fun _ h9 => h9) rfl dX9_number_6 ?_
  refine lv_if_ne (tgt := 53) hx hb dX9_number_9 (by decide) (fun c9 => ?_) (fun c9 => ?_)
  · have hM := g_neg c9 hM
    refine lv_iload_n hx hb dX9_number_53 rfl (lv_at hl 0 rfl) ?_
    obtain ⟨rfl, rfl, rfl, rfl, rfl, rfl, rfl⟩ := si7 hM
    exact hret _ _ _ _ _ dX9_number_54 rfl rfl hP hD hS
  · have hM := g_pos c9 hM
    refine lv_aload_n hx hb dX9_number_12 rfl (lv_at hl 1 rfl) ?_
    refine va_get (D := D) (ci := 9) (v := .int v_sort) (C := RX9) (T := TX9) (N := 38) hx hb hts iX9 hown hK hP 0 rfl rfl 17 (by decide) k120 (fun _ h9 => h9) rfl dX9_number_13 ?_
    refine lv_bipush (v := 6) hx hb dX9_number_16 (by decide) ?_
    refine lv_icmp_eq (tgt := 29) hx hb dX9_number_18 (by decide) (fun c18 => ?_) (fun c18 => ?_)
    · have hM := g_pos c18 hM
      refine lv_aload_n hx hb dX9_number_29 rfl (lv_at hl 1 rfl) ?_
      refine va_get (D := D) (ci := 9) (v := .int v_value) (C := RX9) (T := TX9) (N := 38) hx hb hts iX9 hown hK hP 0 rfl rfl 18 (by decide) k117 (fun _ h9 => h9) rfl dX9_number_30 ?_
      refine lv_iload_n hx hb dX9_number_33 rfl (lv_at hl 2 rfl) ?_
      refine lv_iload_n hx hb dX9_number_34 rfl (lv_at hl 3 rfl) ?_
      obtain ⟨r35, hc35, hM⟩ := ob1_some hM
      refine cl_si (As := [.int v_value, .int p1, .int p2]) (rest := []) (wr := [(h0, .inr (9, [oh0_0, .ref h0_text, .int v_typed, oh0_3, oh0_4, oh0_5, oh0_6, oh0_7, oh0_8, oh0_9, oh0_10, oh0_11, oh0_12, oh0_13, oh0_14, .int v_at, .int v_start, .int v_sort, .int v_value, .int v_fault, .int v_faultAt, oh0_21, oh0_22, oh0_23, oh0_24, oh0_25, oh0_26, oh0_27, oh0_28, oh0_29, oh0_30, oh0_31, oh0_32, oh0_33, oh0_34, oh0_35, oh0_36, oh0_37])), (h0_text, .inl (cy 0, 500, .inl v_text))]) (ws2 := [(h0, .inr (9, [oh0_0, .ref h0_text, .int v_typed, oh0_3, oh0_4, oh0_5, oh0_6, oh0_7, oh0_8, oh0_9, oh0_10, oh0_11, oh0_12, oh0_13, oh0_14, .int v_at, .int v_start, .int v_sort, .int v_value, .int v_fault, .int v_faultAt, oh0_21, oh0_22, oh0_23, oh0_24, oh0_25, oh0_26, oh0_27, oh0_28, oh0_29, oh0_30, oh0_31, oh0_32, oh0_33, oh0_34, oh0_35, oh0_36, oh0_37])), (h0_text, .inl (cy 0, 500, .inl v_text))]) (isC := []) (isR := [0, 1]) (pm := [0, 1]) hx hb hml hown hts (c9_in l D cy N v_value p1 p2 r35 hc35) (va_cwS 3 hts gX9_number_X9_in rfl rfl rfl (by decide +kernel) ⟨Nat.le_of_ble_eq_true rfl, Nat.le_of_ble_eq_true rfl⟩) hK hP hD hS hA rfl rfl rfl (by decide) rfl rfl rfl hl.1 (Nat.le_of_ble_eq_true rfl) dX9_number_35 ⟨Nat.zero_le _, Nat.zero_le _⟩ rfl rfl (fun H locs hP hD hS => ?_)
      refine lv_if_ne (tgt := 49) hx hb dX9_number_38 (by decide) (fun c38 => ?_) (fun c38 => ?_)
      · have hM := g_neg c38 hM
        refine lv_aload_n hx hb dX9_number_49 rfl (lv_at hl 1 rfl) ?_
        obtain ⟨v_at_50, v_start_50, v_sort_50, v_value_50, hc50, hM⟩ := ob4_some hM
        refine cl_vv (As := []) (rest := []) (ci := 9) (q0 := 0) (wr := []) (ws2 := [(h0, .inr (9, [oh0_0, .ref h0_text, .int v_typed, oh0_3, oh0_4, oh0_5, oh0_6, oh0_7, oh0_8, oh0_9, oh0_10, oh0_11, oh0_12, oh0_13, oh0_14, .int v_at_50, .int v_start_50, .int v_sort_50, .int v_value_50, .int v_fault, .int v_faultAt, oh0_21, oh0_22, oh0_23, oh0_24, oh0_25, oh0_26, oh0_27, oh0_28, oh0_29, oh0_30, oh0_31, oh0_32, oh0_33, oh0_34, oh0_35, oh0_36, oh0_37])), (h0_text, .inl (cy 0, 500, .inl v_text))]) (isC := [0, 1]) (isR := []) (pm := [0, 1]) hx hb hml hown hts (c9_step l D cy N h0 h0_text oh0_0 oh0_3 oh0_4 oh0_5 oh0_6 oh0_7 oh0_8 oh0_9 oh0_10 oh0_11 oh0_12 oh0_13 oh0_14 (.int v_fault) (.int v_faultAt) oh0_21 oh0_22 oh0_23 oh0_24 oh0_25 oh0_26 oh0_27 oh0_28 oh0_29 oh0_30 oh0_31 oh0_32 oh0_33 oh0_34 oh0_35 oh0_36 oh0_37 v_typed v_at v_start v_sort v_value v_text v_at_50 v_start_50 v_sort_50 v_value_50 hc50) (cwV 0 hts gX9_number_X9_step rfl rfl rfl (by decide +kernel) ⟨Nat.le_of_ble_eq_true rfl, Nat.le_of_ble_eq_true rfl⟩) hK hP hD hS hA rfl rfl rfl rfl rfl (by decide) rfl rfl rfl hl.1 (Nat.le_of_ble_eq_true rfl) dX9_number_50 ⟨Nat.zero_le _, Nat.zero_le _⟩ rfl rfl (fun H locs hP hD hS => ?_)
        refine lv_iload_n hx hb dX9_number_53 rfl (lv_at hl 0 rfl) ?_
        obtain ⟨rfl, rfl, rfl, rfl, rfl, rfl, rfl⟩ := si7 hM
        exact hret _ _ _ _ _ dX9_number_54 rfl rfl hP hD hS
      · have hM := g_pos c38 hM
        refine lv_aload_n hx hb dX9_number_41 rfl (lv_at hl 1 rfl) ?_
        refine lv_iconst (v := 2) hx hb dX9_number_42 (by decide) ?_
        obtain ⟨v_fault_43, v_faultAt_43, hc43, hM⟩ := ob2_some hM
        refine cl_vv (As := [.int (2 : Int32)]) (rest := []) (ci := 9) (q0 := 0) (wr := [(h0_text, .inl (cy 0, 500, .inl v_text))]) (ws2 := [(h0, .inr (9, [oh0_0, .ref h0_text, .int v_typed, oh0_3, oh0_4, oh0_5, oh0_6, oh0_7, oh0_8, oh0_9, oh0_10, oh0_11, oh0_12, oh0_13, oh0_14, .int v_at, .int v_start, .int v_sort, .int v_value, .int v_fault_43, .int v_faultAt_43, oh0_21, oh0_22, oh0_23, oh0_24, oh0_25, oh0_26, oh0_27, oh0_28, oh0_29, oh0_30, oh0_31, oh0_32, oh0_33, oh0_34, oh0_35, oh0_36, oh0_37])), (h0_text, .inl (cy 0, 500, .inl v_text))]) (isC := [0]) (isR := [1]) (pm := [1, 0]) hx hb hml hown hts (c9_fails l D cy N h0 oh0_0 (.ref h0_text) (.int v_typed) oh0_3 oh0_4 oh0_5 oh0_6 oh0_7 oh0_8 oh0_9 oh0_10 oh0_11 oh0_12 oh0_13 oh0_14 (.int v_at) (.int v_sort) (.int v_value) oh0_21 oh0_22 oh0_23 oh0_24 oh0_25 oh0_26 oh0_27 oh0_28 oh0_29 oh0_30 oh0_31 oh0_32 oh0_33 oh0_34 oh0_35 oh0_36 oh0_37 (2 : Int32) v_start v_fault v_faultAt v_fault_43 v_faultAt_43 hc43) (cwV 1 hts gX9_number_X9_fails rfl rfl rfl (by decide +kernel) ⟨Nat.le_of_ble_eq_true rfl, Nat.le_of_ble_eq_true rfl⟩) hK hP hD hS hA rfl rfl rfl rfl rfl (by decide) rfl rfl rfl hl.1 (Nat.le_of_ble_eq_true rfl) dX9_number_43 ⟨Nat.zero_le _, Nat.zero_le _⟩ rfl rfl (fun H locs hP hD hS => ?_)
        refine lv_goto (tgt := 53) hx hb dX9_number_46 (by decide) ?_
        refine lv_iload_n hx hb dX9_number_53 rfl (lv_at hl 0 rfl) ?_
        obtain ⟨rfl, rfl, rfl, rfl, rfl, rfl, rfl⟩ := si7 hM
        exact hret _ _ _ _ _ dX9_number_54 rfl rfl hP hD hS
    · have hM := g_neg c18 hM
      refine lv_aload_n hx hb dX9_number_21 rfl (lv_at hl 1 rfl) ?_
      refine lv_iconst (v := 1) hx hb dX9_number_22 (by decide) ?_
      obtain ⟨v_fault_23, v_faultAt_23, hc23, hM⟩ := ob2_some hM
      refine cl_vv (As := [.int (1 : Int32)]) (rest := []) (ci := 9) (q0 := 0) (wr := [(h0_text, .inl (cy 0, 500, .inl v_text))]) (ws2 := [(h0, .inr (9, [oh0_0, .ref h0_text, .int v_typed, oh0_3, oh0_4, oh0_5, oh0_6, oh0_7, oh0_8, oh0_9, oh0_10, oh0_11, oh0_12, oh0_13, oh0_14, .int v_at, .int v_start, .int v_sort, .int v_value, .int v_fault_23, .int v_faultAt_23, oh0_21, oh0_22, oh0_23, oh0_24, oh0_25, oh0_26, oh0_27, oh0_28, oh0_29, oh0_30, oh0_31, oh0_32, oh0_33, oh0_34, oh0_35, oh0_36, oh0_37])), (h0_text, .inl (cy 0, 500, .inl v_text))]) (isC := [0]) (isR := [1]) (pm := [1, 0]) hx hb hml hown hts (c9_fails l D cy N h0 oh0_0 (.ref h0_text) (.int v_typed) oh0_3 oh0_4 oh0_5 oh0_6 oh0_7 oh0_8 oh0_9 oh0_10 oh0_11 oh0_12 oh0_13 oh0_14 (.int v_at) (.int v_sort) (.int v_value) oh0_21 oh0_22 oh0_23 oh0_24 oh0_25 oh0_26 oh0_27 oh0_28 oh0_29 oh0_30 oh0_31 oh0_32 oh0_33 oh0_34 oh0_35 oh0_36 oh0_37 (1 : Int32) v_start v_fault v_faultAt v_fault_23 v_faultAt_23 hc23) (cwV 1 hts gX9_number_X9_fails rfl rfl rfl (by decide +kernel) ⟨Nat.le_of_ble_eq_true rfl, Nat.le_of_ble_eq_true rfl⟩) hK hP hD hS hA rfl rfl rfl rfl rfl (by decide) rfl rfl rfl hl.1 (Nat.le_of_ble_eq_true rfl) dX9_number_23 ⟨Nat.zero_le _, Nat.zero_le _⟩ rfl rfl (fun H locs hP hD hS => ?_)
      refine lv_goto (tgt := 53) hx hb dX9_number_26 (by decide) ?_
      refine lv_iload_n hx hb dX9_number_53 rfl (lv_at hl 0 rfl) ?_
      obtain ⟨rfl, rfl, rfl, rfl, rfl, rfl, rfl⟩ := si7 hM
      exact hret _ _ _ _ _ dX9_number_54 rfl rfl hP hD hS

-- ===== X9_partBut partBut (I)I =====
abbrev r9_partBut : Room := { frames := 3, cells := 0, slots := 0, locals := 69 }
def f9_partBut (N : Nat) (p1 : Int32) (v_typed : Int32) (v_at : Int32) (v_start : Int32) (v_sort : Int32) (v_value : Int32) (v_fault : Int32) (v_faultAt : Int32) (v_text : Nat → Int32) (v_parts : Nat → Int32) : Option (Int32 × Int32 × Int32 × Int32 × Int32 × Int32 × Int32) :=
  if v_fault = (0 : Int32) then (if v_sort = (6 : Int32) then (gi (1 : Int32) 2 (ob1 (f9_in N v_value (0 : Int32) ((v_parts (1 : Int32).toNatClampNeg) - (1 : Int32))) fun r29 => if r29 = (0 : Int32) then (gi (1 : Int32) 2 (ob7 (f9_number N (0 : Int32) ((v_parts (1 : Int32).toNatClampNeg) - (1 : Int32)) v_typed v_at v_start v_sort v_value v_fault v_faultAt v_text) fun r62 v_at_62 v_start_62 v_sort_62 v_value_62 v_fault_62 v_faultAt_62 => some (r62, v_at_62, v_start_62, v_sort_62, v_value_62, v_fault_62, v_faultAt_62))) else (if ((p1 >>> (v_value &&& 31)) &&& (1 : Int32)) = (1 : Int32) then (ob2 (f9_fails N (4 : Int32) v_start v_fault v_faultAt) fun v_fault_49 v_faultAt_49 => gi (1 : Int32) 2 (ob7 (f9_number N (0 : Int32) ((v_parts (1 : Int32).toNatClampNeg) - (1 : Int32)) v_typed v_at v_start v_sort v_value v_fault_49 v_faultAt_49 v_text) fun r62 v_at_62 v_start_62 v_sort_62 v_value_62 v_fault_62 v_faultAt_62 => some (r62, v_at_62, v_start_62, v_sort_62, v_value_62, v_fault_62, v_faultAt_62))) else (gi (1 : Int32) 2 (ob7 (f9_number N (0 : Int32) ((v_parts (1 : Int32).toNatClampNeg) - (1 : Int32)) v_typed v_at v_start v_sort v_value v_fault v_faultAt v_text) fun r62 v_at_62 v_start_62 v_sort_62 v_value_62 v_fault_62 v_faultAt_62 => some (r62, v_at_62, v_start_62, v_sort_62, v_value_62, v_fault_62, v_faultAt_62)))))) else (gi (1 : Int32) 2 (ob7 (f9_number N (0 : Int32) ((v_parts (1 : Int32).toNatClampNeg) - (1 : Int32)) v_typed v_at v_start v_sort v_value v_fault v_faultAt v_text) fun r62 v_at_62 v_start_62 v_sort_62 v_value_62 v_fault_62 v_faultAt_62 => some (r62, v_at_62, v_start_62, v_sort_62, v_value_62, v_fault_62, v_faultAt_62)))) else (gi (1 : Int32) 2 (ob7 (f9_number N (0 : Int32) ((v_parts (1 : Int32).toNatClampNeg) - (1 : Int32)) v_typed v_at v_start v_sort v_value v_fault v_faultAt v_text) fun r62 v_at_62 v_start_62 v_sort_62 v_value_62 v_fault_62 v_faultAt_62 => some (r62, v_at_62, v_start_62, v_sort_62, v_value_62, v_fault_62, v_faultAt_62)))
set_option maxHeartbeats 4000000 in
set_option maxRecDepth 100000 in
theorem c9_partBut (l : Launch) (D : va_G) (cy : Nat → ClassId) (N : Nat) (h0 h0_text h0_parts : Nat) (oh0_0 oh0_4 oh0_5 oh0_6 oh0_7 oh0_8 oh0_9 oh0_10 oh0_11 oh0_12 oh0_13 oh0_14 oh0_21 oh0_22 oh0_23 oh0_24 oh0_25 oh0_26 oh0_27 oh0_28 oh0_29 oh0_30 oh0_31 oh0_32 oh0_33 oh0_34 oh0_35 oh0_36 oh0_37 : Value) (p1 : Int32) (v_typed : Int32) (v_at : Int32) (v_start : Int32) (v_sort : Int32) (v_value : Int32) (v_fault : Int32) (v_faultAt : Int32) (v_text : Nat → Int32) (v_parts : Nat → Int32) (r : Int32) (nv_at : Int32) (nv_start : Int32) (nv_sort : Int32) (nv_value : Int32) (nv_fault : Int32) (nv_faultAt : Int32) (hM : f9_partBut N p1 v_typed v_at v_start v_sort v_value v_fault v_faultAt v_text v_parts = some (r, nv_at, nv_start, nv_sort, nv_value, nv_fault, nv_faultAt)) (sz : Nat) : CTi l yX9_partBut wsX9_partBut r9_partBut [.ref h0, .int p1] D cy sz [(h0, .inr (9, [oh0_0, .ref h0_text, .int v_typed, .ref h0_parts, oh0_4, oh0_5, oh0_6, oh0_7, oh0_8, oh0_9, oh0_10, oh0_11, oh0_12, oh0_13, oh0_14, .int v_at, .int v_start, .int v_sort, .int v_value, .int v_fault, .int v_faultAt, oh0_21, oh0_22, oh0_23, oh0_24, oh0_25, oh0_26, oh0_27, oh0_28, oh0_29, oh0_30, oh0_31, oh0_32, oh0_33, oh0_34, oh0_35, oh0_36, oh0_37])), (h0_text, .inl (cy 0, 500, .inl v_text)), (h0_parts, .inl (cy 2, 2, .inl v_parts))] [(h0, .inr (9, [oh0_0, .ref h0_text, .int v_typed, .ref h0_parts, oh0_4, oh0_5, oh0_6, oh0_7, oh0_8, oh0_9, oh0_10, oh0_11, oh0_12, oh0_13, oh0_14, .int nv_at, .int nv_start, .int nv_sort, .int nv_value, .int nv_fault, .int nv_faultAt, oh0_21, oh0_22, oh0_23, oh0_24, oh0_25, oh0_26, oh0_27, oh0_28, oh0_29, oh0_30, oh0_31, oh0_32, oh0_33, oh0_34, oh0_35, oh0_36, oh0_37])), (h0_text, .inl (cy 0, 500, .inl v_text)), (h0_parts, .inl (cy 2, 2, .inl v_parts))] r := by
  unfold f9_partBut at hM
  refine ct_oi (cc := cX9_partBut) (maxL := 2) (ty := .int) (by decide +kernel) rfl (Nat.le_of_ble_eq_true rfl) (lv0 := [(0, .ref h0), (1, .int p1)]) rfl ?_
  intro p e s m args below meth c A Q ls hx hb hts hown hml hK hP hD hS hA hret hl
  have hown : s.vm.findClass RX9 = some m.cls := hown
  have k128 := hts (.fieldLink RX9 128 "CaveYearsModel" "fault" "I") (List.mem_of_getElem? (i := 1) rfl)
  have iX9 := (fun w h => (List.mem_cons_of_mem _ (List.mem_append_right _ h)) : ∀ w ∈ wsX90, w ∈ wsX9_partBut)
  have k13 := hts (.fieldLink RX9 13 "CaveYearsModel" "parts" "[I") (List.mem_of_getElem? (i := 4) rfl)
  have k120 := hts (.fieldLink RX9 120 "CaveYearsModel" "sort" "I") (List.mem_of_getElem? (i := 2) rfl)
  have k117 := hts (.fieldLink RX9 117 "CaveYearsModel" "value" "I") (List.mem_of_getElem? (i := 3) rfl)
  refine lv_aload_n hx hb dX9_partBut_0 rfl (lv_at hl 0 rfl) ?_
  refine va_get (D := D) (ci := 9) (v := .int v_fault) (C := RX9) (T := TX9) (N := 38) hx hb hts iX9 hown hK hP 0 rfl rfl 19 (by decide) k128 (fun _ h9 => h9) rfl dX9_partBut_1 ?_
  refine lv_if_ne (tgt := 52) hx hb dX9_partBut_4 (by decide) (fun c4 => ?_) (fun c4 => ?_)
  · have hM := g_neg c4 hM
    refine lv_aload_n hx hb dX9_partBut_52 rfl (lv_at hl 0 rfl) ?_
    refine lv_iconst (v := 0) hx hb dX9_partBut_53 (by decide) ?_
    refine lv_aload_n hx hb dX9_partBut_54 rfl (lv_at hl 0 rfl) ?_
    refine va_get (D := D) (ci := 9) (v := .ref h0_parts) (C := RX9) (T := TX9) (N := 38) hx hb hts iX9 hown hK hP 0 rfl rfl 3 (by decide) k13 (fun _ h9 => h9) rfl dX9_partBut_55 ?_
    refine lv_iconst (v := 1) hx hb dX9_partBut_58 (by decide) ?_
    obtain ⟨h59, hM⟩ := gi_some hM
    refine va_iald hx hb hK hP 2 2 rfl rfl h59 dX9_partBut_59 ?_
    refine lv_iconst (v := 1) hx hb dX9_partBut_60 (by decide) ?_
    refine lv_isub hx hb dX9_partBut_61 ?_
    obtain ⟨r62, v_at_62, v_start_62, v_sort_62, v_value_62, v_fault_62, v_faultAt_62, hc62, hM⟩ := ob7_some hM
    refine cl_vi (As := [.int (0 : Int32), .int ((v_parts (1 : Int32).toNatClampNeg) - (1 : Int32))]) (rest := []) (ci := 9) (q0 := 0) (wr := [(h0_parts, .inl (cy 2, 2, .inl v_parts))]) (ws2 := [(h0, .inr (9, [oh0_0, .ref h0_text, .int v_typed, .ref h0_parts, oh0_4, oh0_5, oh0_6, oh0_7, oh0_8, oh0_9, oh0_10, oh0_11, oh0_12, oh0_13, oh0_14, .int v_at_62, .int v_start_62, .int v_sort_62, .int v_value_62, .int v_fault_62, .int v_faultAt_62, oh0_21, oh0_22, oh0_23, oh0_24, oh0_25, oh0_26, oh0_27, oh0_28, oh0_29, oh0_30, oh0_31, oh0_32, oh0_33, oh0_34, oh0_35, oh0_36, oh0_37])), (h0_text, .inl (cy 0, 500, .inl v_text)), (h0_parts, .inl (cy 2, 2, .inl v_parts))]) (isC := [0, 1]) (isR := [2]) (pm := [1, 2, 0]) hx hb hml hown hts (c9_number l D cy N h0 h0_text oh0_0 (.ref h0_parts) oh0_4 oh0_5 oh0_6 oh0_7 oh0_8 oh0_9 oh0_10 oh0_11 oh0_12 oh0_13 oh0_14 oh0_21 oh0_22 oh0_23 oh0_24 oh0_25 oh0_26 oh0_27 oh0_28 oh0_29 oh0_30 oh0_31 oh0_32 oh0_33 oh0_34 oh0_35 oh0_36 oh0_37 (0 : Int32) ((v_parts (1 : Int32).toNatClampNeg) - (1 : Int32)) v_typed v_at v_start v_sort v_value v_fault v_faultAt v_text r62 v_at_62 v_start_62 v_sort_62 v_value_62 v_fault_62 v_faultAt_62 hc62) (cwV 2 hts gX9_partBut_X9_number rfl rfl rfl (by decide +kernel) ⟨Nat.le_of_ble_eq_true rfl, Nat.le_of_ble_eq_true rfl⟩) hK hP hD hS hA rfl rfl rfl rfl rfl (by decide) rfl rfl rfl hl.1 (Nat.le_of_ble_eq_true rfl) dX9_partBut_62 ⟨Nat.zero_le _, Nat.zero_le _⟩ rfl rfl (fun H locs hP hD hS => ?_)
    obtain ⟨rfl, rfl, rfl, rfl, rfl, rfl, rfl⟩ := si7 hM
    exact hret _ _ _ _ _ dX9_partBut_65 rfl rfl hP hD hS
  · have hM := g_pos c4 hM
    refine lv_aload_n hx hb dX9_partBut_7 rfl (lv_at hl 0 rfl) ?_
    refine va_get (D := D) (ci := 9) (v := .int v_sort) (C := RX9) (T := TX9) (N := 38) hx hb hts iX9 hown hK hP 0 rfl rfl 17 (by decide) k120 (fun _ h9 => h9) rfl dX9_partBut_8 ?_
    refine lv_bipush (v := 6) hx hb dX9_partBut_11 (by decide) ?_
    refine lv_icmp_ne (tgt := 52) hx hb dX9_partBut_13 (by decide) (fun c13 => ?_) (fun c13 => ?_)
    · have hM := g_neg c13 hM
      refine lv_aload_n hx hb dX9_partBut_52 rfl (lv_at hl 0 rfl) ?_
      refine lv_iconst (v := 0) hx hb dX9_partBut_53 (by decide) ?_
      refine lv_aload_n hx hb dX9_partBut_54 rfl (lv_at hl 0 rfl) ?_
      refine va_get (D := D) (ci := 9) (v := .ref h0_parts) (C := RX9) (T := TX9) (N := 38) hx hb hts iX9 hown hK hP 0 rfl rfl 3 (by decide) k13 (fun _ h9 => h9) rfl dX9_partBut_55 ?_
      refine lv_iconst (v := 1) hx hb dX9_partBut_58 (by decide) ?_
      obtain ⟨h59, hM⟩ := gi_some hM
      refine va_iald hx hb hK hP 2 2 rfl rfl h59 dX9_partBut_59 ?_
      refine lv_iconst (v := 1) hx hb dX9_partBut_60 (by decide) ?_
      refine lv_isub hx hb dX9_partBut_61 ?_
      obtain ⟨r62, v_at_62, v_start_62, v_sort_62, v_value_62, v_fault_62, v_faultAt_62, hc62, hM⟩ := ob7_some hM
      refine cl_vi (As := [.int (0 : Int32), .int ((v_parts (1 : Int32).toNatClampNeg) - (1 : Int32))]) (rest := []) (ci := 9) (q0 := 0) (wr := [(h0_parts, .inl (cy 2, 2, .inl v_parts))]) (ws2 := [(h0, .inr (9, [oh0_0, .ref h0_text, .int v_typed, .ref h0_parts, oh0_4, oh0_5, oh0_6, oh0_7, oh0_8, oh0_9, oh0_10, oh0_11, oh0_12, oh0_13, oh0_14, .int v_at_62, .int v_start_62, .int v_sort_62, .int v_value_62, .int v_fault_62, .int v_faultAt_62, oh0_21, oh0_22, oh0_23, oh0_24, oh0_25, oh0_26, oh0_27, oh0_28, oh0_29, oh0_30, oh0_31, oh0_32, oh0_33, oh0_34, oh0_35, oh0_36, oh0_37])), (h0_text, .inl (cy 0, 500, .inl v_text)), (h0_parts, .inl (cy 2, 2, .inl v_parts))]) (isC := [0, 1]) (isR := [2]) (pm := [1, 2, 0]) hx hb hml hown hts (c9_number l D cy N h0 h0_text oh0_0 (.ref h0_parts) oh0_4 oh0_5 oh0_6 oh0_7 oh0_8 oh0_9 oh0_10 oh0_11 oh0_12 oh0_13 oh0_14 oh0_21 oh0_22 oh0_23 oh0_24 oh0_25 oh0_26 oh0_27 oh0_28 oh0_29 oh0_30 oh0_31 oh0_32 oh0_33 oh0_34 oh0_35 oh0_36 oh0_37 (0 : Int32) ((v_parts (1 : Int32).toNatClampNeg) - (1 : Int32)) v_typed v_at v_start v_sort v_value v_fault v_faultAt v_text r62 v_at_62 v_start_62 v_sort_62 v_value_62 v_fault_62 v_faultAt_62 hc62) (cwV 2 hts gX9_partBut_X9_number rfl rfl rfl (by decide +kernel) ⟨Nat.le_of_ble_eq_true rfl, Nat.le_of_ble_eq_true rfl⟩) hK hP hD hS hA rfl rfl rfl rfl rfl (by decide) rfl rfl rfl hl.1 (Nat.le_of_ble_eq_true rfl) dX9_partBut_62 ⟨Nat.zero_le _, Nat.zero_le _⟩ rfl rfl (fun H locs hP hD hS => ?_)
      obtain ⟨rfl, rfl, rfl, rfl, rfl, rfl, rfl⟩ := si7 hM
      exact hret _ _ _ _ _ dX9_partBut_65 rfl rfl hP hD hS
    · have hM := g_pos c13 hM
      refine lv_aload_n hx hb dX9_partBut_16 rfl (lv_at hl 0 rfl) ?_
      refine va_get (D := D) (ci := 9) (v := .int v_value) (C := RX9) (T := TX9) (N := 38) hx hb hts iX9 hown hK hP 0 rfl rfl 18 (by decide) k117 (fun _ h9 => h9) rfl dX9_partBut_17 ?_
      refine lv_iconst (v := 0) hx hb dX9_partBut_20 (by decide) ?_
      refine lv_aload_n hx hb dX9_partBut_21 rfl (lv_at hl 0 rfl) ?_
      refine va_get (D := D) (ci := 9) (v := .ref h0_parts) (C := RX9) (T := TX9) (N := 38) hx hb hts iX9 hown hK hP 0 rfl rfl 3 (by decide) k13 (fun _ h9 => h9) rfl dX9_partBut_22 ?_
      refine lv_iconst (v := 1) hx hb dX9_partBut_25 (by decide) ?_
      obtain ⟨h26, hM⟩ := gi_some hM
      refine va_iald hx hb hK hP 2 2 rfl rfl h26 dX9_partBut_26 ?_
      refine lv_iconst (v := 1) hx hb dX9_partBut_27 (by decide) ?_
      refine lv_isub hx hb dX9_partBut_28 ?_
      obtain ⟨r29, hc29, hM⟩ := ob1_some hM
      refine cl_si (As := [.int v_value, .int (0 : Int32), .int ((v_parts (1 : Int32).toNatClampNeg) - (1 : Int32))]) (rest := []) (wr := [(h0, .inr (9, [oh0_0, .ref h0_text, .int v_typed, .ref h0_parts, oh0_4, oh0_5, oh0_6, oh0_7, oh0_8, oh0_9, oh0_10, oh0_11, oh0_12, oh0_13, oh0_14, .int v_at, .int v_start, .int v_sort, .int v_value, .int v_fault, .int v_faultAt, oh0_21, oh0_22, oh0_23, oh0_24, oh0_25, oh0_26, oh0_27, oh0_28, oh0_29, oh0_30, oh0_31, oh0_32, oh0_33, oh0_34, oh0_35, oh0_36, oh0_37])), (h0_text, .inl (cy 0, 500, .inl v_text)), (h0_parts, .inl (cy 2, 2, .inl v_parts))]) (ws2 := [(h0, .inr (9, [oh0_0, .ref h0_text, .int v_typed, .ref h0_parts, oh0_4, oh0_5, oh0_6, oh0_7, oh0_8, oh0_9, oh0_10, oh0_11, oh0_12, oh0_13, oh0_14, .int v_at, .int v_start, .int v_sort, .int v_value, .int v_fault, .int v_faultAt, oh0_21, oh0_22, oh0_23, oh0_24, oh0_25, oh0_26, oh0_27, oh0_28, oh0_29, oh0_30, oh0_31, oh0_32, oh0_33, oh0_34, oh0_35, oh0_36, oh0_37])), (h0_text, .inl (cy 0, 500, .inl v_text)), (h0_parts, .inl (cy 2, 2, .inl v_parts))]) (isC := []) (isR := [0, 1, 2]) (pm := [0, 1, 2]) hx hb hml hown hts (c9_in l D cy N v_value (0 : Int32) ((v_parts (1 : Int32).toNatClampNeg) - (1 : Int32)) r29 hc29) (va_cwS 3 hts gX9_partBut_X9_in rfl rfl rfl (by decide +kernel) ⟨Nat.le_of_ble_eq_true rfl, Nat.le_of_ble_eq_true rfl⟩) hK hP hD hS hA rfl rfl rfl (by decide) rfl rfl rfl hl.1 (Nat.le_of_ble_eq_true rfl) dX9_partBut_29 ⟨Nat.zero_le _, Nat.zero_le _⟩ rfl rfl (fun H locs hP hD hS => ?_)
      refine lv_if_eq (tgt := 52) hx hb dX9_partBut_32 (by decide) (fun c32 => ?_) (fun c32 => ?_)
      · have hM := g_pos c32 hM
        refine lv_aload_n hx hb dX9_partBut_52 rfl (lv_at hl 0 rfl) ?_
        refine lv_iconst (v := 0) hx hb dX9_partBut_53 (by decide) ?_
        refine lv_aload_n hx hb dX9_partBut_54 rfl (lv_at hl 0 rfl) ?_
        refine va_get (D := D) (ci := 9) (v := .ref h0_parts) (C := RX9) (T := TX9) (N := 38) hx hb hts iX9 hown hK hP 0 rfl rfl 3 (by decide) k13 (fun _ h9 => h9) rfl dX9_partBut_55 ?_
        refine lv_iconst (v := 1) hx hb dX9_partBut_58 (by decide) ?_
        obtain ⟨h59, hM⟩ := gi_some hM
        refine va_iald hx hb hK hP 2 2 rfl rfl h59 dX9_partBut_59 ?_
        refine lv_iconst (v := 1) hx hb dX9_partBut_60 (by decide) ?_
        refine lv_isub hx hb dX9_partBut_61 ?_
        obtain ⟨r62, v_at_62, v_start_62, v_sort_62, v_value_62, v_fault_62, v_faultAt_62, hc62, hM⟩ := ob7_some hM
        refine cl_vi (As := [.int (0 : Int32), .int ((v_parts (1 : Int32).toNatClampNeg) - (1 : Int32))]) (rest := []) (ci := 9) (q0 := 0) (wr := [(h0_parts, .inl (cy 2, 2, .inl v_parts))]) (ws2 := [(h0, .inr (9, [oh0_0, .ref h0_text, .int v_typed, .ref h0_parts, oh0_4, oh0_5, oh0_6, oh0_7, oh0_8, oh0_9, oh0_10, oh0_11, oh0_12, oh0_13, oh0_14, .int v_at_62, .int v_start_62, .int v_sort_62, .int v_value_62, .int v_fault_62, .int v_faultAt_62, oh0_21, oh0_22, oh0_23, oh0_24, oh0_25, oh0_26, oh0_27, oh0_28, oh0_29, oh0_30, oh0_31, oh0_32, oh0_33, oh0_34, oh0_35, oh0_36, oh0_37])), (h0_text, .inl (cy 0, 500, .inl v_text)), (h0_parts, .inl (cy 2, 2, .inl v_parts))]) (isC := [0, 1]) (isR := [2]) (pm := [1, 2, 0]) hx hb hml hown hts (c9_number l D cy N h0 h0_text oh0_0 (.ref h0_parts) oh0_4 oh0_5 oh0_6 oh0_7 oh0_8 oh0_9 oh0_10 oh0_11 oh0_12 oh0_13 oh0_14 oh0_21 oh0_22 oh0_23 oh0_24 oh0_25 oh0_26 oh0_27 oh0_28 oh0_29 oh0_30 oh0_31 oh0_32 oh0_33 oh0_34 oh0_35 oh0_36 oh0_37 (0 : Int32) ((v_parts (1 : Int32).toNatClampNeg) - (1 : Int32)) v_typed v_at v_start v_sort v_value v_fault v_faultAt v_text r62 v_at_62 v_start_62 v_sort_62 v_value_62 v_fault_62 v_faultAt_62 hc62) (cwV 2 hts gX9_partBut_X9_number rfl rfl rfl (by decide +kernel) ⟨Nat.le_of_ble_eq_true rfl, Nat.le_of_ble_eq_true rfl⟩) hK hP hD hS hA rfl rfl rfl rfl rfl (by decide) rfl rfl rfl hl.1 (Nat.le_of_ble_eq_true rfl) dX9_partBut_62 ⟨Nat.zero_le _, Nat.zero_le _⟩ rfl rfl (fun H locs hP hD hS => ?_)
        obtain ⟨rfl, rfl, rfl, rfl, rfl, rfl, rfl⟩ := si7 hM
        exact hret _ _ _ _ _ dX9_partBut_65 rfl rfl hP hD hS
      · have hM := g_neg c32 hM
        refine lv_iload_n hx hb dX9_partBut_35 rfl (lv_at hl 1 rfl) ?_
        refine lv_aload_n hx hb dX9_partBut_36 rfl (lv_at hl 0 rfl) ?_
        refine va_get (D := D) (ci := 9) (v := .int v_value) (C := RX9) (T := TX9) (N := 38) hx hb hts iX9 hown hK hP 0 rfl rfl 18 (by decide) k117 (fun _ h9 => h9) rfl dX9_partBut_37 ?_
        refine lv_ishr hx hb dX9_partBut_40 ?_
        refine lv_iconst (v := 1) hx hb dX9_partBut_41 (by decide) ?_
        refine lv_iand hx hb dX9_partBut_42 ?_
        refine lv_iconst (v := 1) hx hb dX9_partBut_43 (by decide) ?_
        refine lv_icmp_ne (tgt := 52) hx hb dX9_partBut_44 (by decide) (fun c44 => ?_) (fun c44 => ?_)
        · have hM := g_neg c44 hM
          refine lv_aload_n hx hb dX9_partBut_52 rfl (lv_at hl 0 rfl) ?_
          refine lv_iconst (v := 0) hx hb dX9_partBut_53 (by decide) ?_
          refine lv_aload_n hx hb dX9_partBut_54 rfl (lv_at hl 0 rfl) ?_
          refine va_get (D := D) (ci := 9) (v := .ref h0_parts) (C := RX9) (T := TX9) (N := 38) hx hb hts iX9 hown hK hP 0 rfl rfl 3 (by decide) k13 (fun _ h9 => h9) rfl dX9_partBut_55 ?_
          refine lv_iconst (v := 1) hx hb dX9_partBut_58 (by decide) ?_
          obtain ⟨h59, hM⟩ := gi_some hM
          refine va_iald hx hb hK hP 2 2 rfl rfl h59 dX9_partBut_59 ?_
          refine lv_iconst (v := 1) hx hb dX9_partBut_60 (by decide) ?_
          refine lv_isub hx hb dX9_partBut_61 ?_
          obtain ⟨r62, v_at_62, v_start_62, v_sort_62, v_value_62, v_fault_62, v_faultAt_62, hc62, hM⟩ := ob7_some hM
          refine cl_vi (As := [.int (0 : Int32), .int ((v_parts (1 : Int32).toNatClampNeg) - (1 : Int32))]) (rest := []) (ci := 9) (q0 := 0) (wr := [(h0_parts, .inl (cy 2, 2, .inl v_parts))]) (ws2 := [(h0, .inr (9, [oh0_0, .ref h0_text, .int v_typed, .ref h0_parts, oh0_4, oh0_5, oh0_6, oh0_7, oh0_8, oh0_9, oh0_10, oh0_11, oh0_12, oh0_13, oh0_14, .int v_at_62, .int v_start_62, .int v_sort_62, .int v_value_62, .int v_fault_62, .int v_faultAt_62, oh0_21, oh0_22, oh0_23, oh0_24, oh0_25, oh0_26, oh0_27, oh0_28, oh0_29, oh0_30, oh0_31, oh0_32, oh0_33, oh0_34, oh0_35, oh0_36, oh0_37])), (h0_text, .inl (cy 0, 500, .inl v_text)), (h0_parts, .inl (cy 2, 2, .inl v_parts))]) (isC := [0, 1]) (isR := [2]) (pm := [1, 2, 0]) hx hb hml hown hts (c9_number l D cy N h0 h0_text oh0_0 (.ref h0_parts) oh0_4 oh0_5 oh0_6 oh0_7 oh0_8 oh0_9 oh0_10 oh0_11 oh0_12 oh0_13 oh0_14 oh0_21 oh0_22 oh0_23 oh0_24 oh0_25 oh0_26 oh0_27 oh0_28 oh0_29 oh0_30 oh0_31 oh0_32 oh0_33 oh0_34 oh0_35 oh0_36 oh0_37 (0 : Int32) ((v_parts (1 : Int32).toNatClampNeg) - (1 : Int32)) v_typed v_at v_start v_sort v_value v_fault v_faultAt v_text r62 v_at_62 v_start_62 v_sort_62 v_value_62 v_fault_62 v_faultAt_62 hc62) (cwV 2 hts gX9_partBut_X9_number rfl rfl rfl (by decide +kernel) ⟨Nat.le_of_ble_eq_true rfl, Nat.le_of_ble_eq_true rfl⟩) hK hP hD hS hA rfl rfl rfl rfl rfl (by decide) rfl rfl rfl hl.1 (Nat.le_of_ble_eq_true rfl) dX9_partBut_62 ⟨Nat.zero_le _, Nat.zero_le _⟩ rfl rfl (fun H locs hP hD hS => ?_)
          obtain ⟨rfl, rfl, rfl, rfl, rfl, rfl, rfl⟩ := si7 hM
          exact hret _ _ _ _ _ dX9_partBut_65 rfl rfl hP hD hS
        · have hM := g_pos c44 hM
          refine lv_aload_n hx hb dX9_partBut_47 rfl (lv_at hl 0 rfl) ?_
          refine lv_iconst (v := 4) hx hb dX9_partBut_48 (by decide) ?_
          obtain ⟨v_fault_49, v_faultAt_49, hc49, hM⟩ := ob2_some hM
          refine cl_vv (As := [.int (4 : Int32)]) (rest := []) (ci := 9) (q0 := 0) (wr := [(h0_text, .inl (cy 0, 500, .inl v_text)), (h0_parts, .inl (cy 2, 2, .inl v_parts))]) (ws2 := [(h0, .inr (9, [oh0_0, .ref h0_text, .int v_typed, .ref h0_parts, oh0_4, oh0_5, oh0_6, oh0_7, oh0_8, oh0_9, oh0_10, oh0_11, oh0_12, oh0_13, oh0_14, .int v_at, .int v_start, .int v_sort, .int v_value, .int v_fault_49, .int v_faultAt_49, oh0_21, oh0_22, oh0_23, oh0_24, oh0_25, oh0_26, oh0_27, oh0_28, oh0_29, oh0_30, oh0_31, oh0_32, oh0_33, oh0_34, oh0_35, oh0_36, oh0_37])), (h0_text, .inl (cy 0, 500, .inl v_text)), (h0_parts, .inl (cy 2, 2, .inl v_parts))]) (isC := [0]) (isR := [1, 2]) (pm := [2, 0, 1]) hx hb hml hown hts (c9_fails l D cy N h0 oh0_0 (.ref h0_text) (.int v_typed) (.ref h0_parts) oh0_4 oh0_5 oh0_6 oh0_7 oh0_8 oh0_9 oh0_10 oh0_11 oh0_12 oh0_13 oh0_14 (.int v_at) (.int v_sort) (.int v_value) oh0_21 oh0_22 oh0_23 oh0_24 oh0_25 oh0_26 oh0_27 oh0_28 oh0_29 oh0_30 oh0_31 oh0_32 oh0_33 oh0_34 oh0_35 oh0_36 oh0_37 (4 : Int32) v_start v_fault v_faultAt v_fault_49 v_faultAt_49 hc49) (cwV 1 hts gX9_partBut_X9_fails rfl rfl rfl (by decide +kernel) ⟨Nat.le_of_ble_eq_true rfl, Nat.le_of_ble_eq_true rfl⟩) hK hP hD hS hA rfl rfl rfl rfl rfl (by decide) rfl rfl rfl hl.1 (Nat.le_of_ble_eq_true rfl) dX9_partBut_49 ⟨Nat.zero_le _, Nat.zero_le _⟩ rfl rfl (fun H locs hP hD hS => ?_)
          refine lv_aload_n hx hb dX9_partBut_52 rfl (lv_at hl 0 rfl) ?_
          refine lv_iconst (v := 0) hx hb dX9_partBut_53 (by decide) ?_
          refine lv_aload_n hx hb dX9_partBut_54 rfl (lv_at hl 0 rfl) ?_
          refine va_get (D := D) (ci := 9) (v := .ref h0_parts) (C := RX9) (T := TX9) (N := 38) hx hb hts iX9 hown hK hP 0 rfl rfl 3 (by decide) k13 (fun _ h9 => h9) rfl dX9_partBut_55 ?_
          refine lv_iconst (v := 1) hx hb dX9_partBut_58 (by decide) ?_
          obtain ⟨h59, hM⟩ := gi_some hM
          refine va_iald hx hb hK hP 2 2 rfl rfl h59 dX9_partBut_59 ?_
          refine lv_iconst (v := 1) hx hb dX9_partBut_60 (by decide) ?_
          refine lv_isub hx hb dX9_partBut_61 ?_
          obtain ⟨r62, v_at_62, v_start_62, v_sort_62, v_value_62, v_fault_62, v_faultAt_62, hc62, hM⟩ := ob7_some hM
          refine cl_vi (As := [.int (0 : Int32), .int ((v_parts (1 : Int32).toNatClampNeg) - (1 : Int32))]) (rest := []) (ci := 9) (q0 := 0) (wr := [(h0_parts, .inl (cy 2, 2, .inl v_parts))]) (ws2 := [(h0, .inr (9, [oh0_0, .ref h0_text, .int v_typed, .ref h0_parts, oh0_4, oh0_5, oh0_6, oh0_7, oh0_8, oh0_9, oh0_10, oh0_11, oh0_12, oh0_13, oh0_14, .int v_at_62, .int v_start_62, .int v_sort_62, .int v_value_62, .int v_fault_62, .int v_faultAt_62, oh0_21, oh0_22, oh0_23, oh0_24, oh0_25, oh0_26, oh0_27, oh0_28, oh0_29, oh0_30, oh0_31, oh0_32, oh0_33, oh0_34, oh0_35, oh0_36, oh0_37])), (h0_text, .inl (cy 0, 500, .inl v_text)), (h0_parts, .inl (cy 2, 2, .inl v_parts))]) (isC := [0, 1]) (isR := [2]) (pm := [1, 2, 0]) hx hb hml hown hts (c9_number l D cy N h0 h0_text oh0_0 (.ref h0_parts) oh0_4 oh0_5 oh0_6 oh0_7 oh0_8 oh0_9 oh0_10 oh0_11 oh0_12 oh0_13 oh0_14 oh0_21 oh0_22 oh0_23 oh0_24 oh0_25 oh0_26 oh0_27 oh0_28 oh0_29 oh0_30 oh0_31 oh0_32 oh0_33 oh0_34 oh0_35 oh0_36 oh0_37 (0 : Int32) ((v_parts (1 : Int32).toNatClampNeg) - (1 : Int32)) v_typed v_at v_start v_sort v_value v_fault_49 v_faultAt_49 v_text r62 v_at_62 v_start_62 v_sort_62 v_value_62 v_fault_62 v_faultAt_62 hc62) (cwV 2 hts gX9_partBut_X9_number rfl rfl rfl (by decide +kernel) ⟨Nat.le_of_ble_eq_true rfl, Nat.le_of_ble_eq_true rfl⟩) hK hP hD hS hA rfl rfl rfl rfl rfl (by decide) rfl rfl rfl hl.1 (Nat.le_of_ble_eq_true rfl) dX9_partBut_62 ⟨Nat.zero_le _, Nat.zero_le _⟩ rfl rfl (fun H locs hP hD hS => ?_)
          obtain ⟨rfl, rfl, rfl, rfl, rfl, rfl, rfl⟩ := si7 hM
          exact hret _ _ _ _ _ dX9_partBut_65 rfl rfl hP hD hS

-- ===== X9_isTooMany isTooMany (I)Z =====
abbrev r9_isTooMany : Room := { frames := 0, cells := 0, slots := 0, locals := 0 }
def f9_isTooMany (N : Nat) (p1 : Int32) (v_hasInterest : Int32) (v_parts : Nat → Int32) (v_wayMany : Nat → Int32) (v_persons : Nat → Int32) (v_winters : Nat → Int32) : Option Int32 :=
  if p1 = (0 : Int32) then (gi (1 : Int32) 2 (if (v_parts (1 : Int32).toNatClampNeg) = (7 : Int32) then (some (1 : Int32)) else (some (0 : Int32)))) else (if p1 = (1 : Int32) then (some (0 : Int32)) else (if p1 = (2 : Int32) then (gi (1 : Int32) 2 (if (v_wayMany (1 : Int32).toNatClampNeg) = (12 : Int32) then (some (1 : Int32)) else (some (0 : Int32)))) else (if p1 = (3 : Int32) then (gi (1 : Int32) 2 (if (v_persons (1 : Int32).toNatClampNeg) = (6 : Int32) then (some (1 : Int32)) else (some (0 : Int32)))) else (if p1 = (4 : Int32) then (gb v_hasInterest (some v_hasInterest)) else (if p1 = (5 : Int32) then (gi (1 : Int32) 2 (if (v_winters (1 : Int32).toNatClampNeg) = (5 : Int32) then (some (1 : Int32)) else (some (0 : Int32)))) else (some (0 : Int32)))))))
set_option maxHeartbeats 4000000 in
set_option maxRecDepth 100000 in
theorem c9_isTooMany (l : Launch) (D : va_G) (cy : Nat → ClassId) (N : Nat) (h0 h0_parts h0_wayMany h0_persons h0_winters : Nat) (oh0_0 oh0_1 oh0_2 oh0_4 oh0_5 oh0_7 oh0_9 oh0_10 oh0_11 oh0_13 oh0_14 oh0_15 oh0_16 oh0_17 oh0_18 oh0_19 oh0_20 oh0_22 oh0_23 oh0_24 oh0_25 oh0_26 oh0_27 oh0_28 oh0_29 oh0_30 oh0_31 oh0_32 oh0_33 oh0_34 oh0_35 oh0_36 oh0_37 : Value) (p1 : Int32) (v_hasInterest : Int32) (v_parts : Nat → Int32) (v_wayMany : Nat → Int32) (v_persons : Nat → Int32) (v_winters : Nat → Int32) (r : Int32) (hM : f9_isTooMany N p1 v_hasInterest v_parts v_wayMany v_persons v_winters = some r) (sz : Nat) : CTi l yX9_isTooMany wsX9_isTooMany r9_isTooMany [.ref h0, .int p1] D cy sz [(h0, .inr (9, [oh0_0, oh0_1, oh0_2, .ref h0_parts, oh0_4, oh0_5, .ref h0_wayMany, oh0_7, .ref h0_persons, oh0_9, oh0_10, oh0_11, .ref h0_winters, oh0_13, oh0_14, oh0_15, oh0_16, oh0_17, oh0_18, oh0_19, oh0_20, .int v_hasInterest, oh0_22, oh0_23, oh0_24, oh0_25, oh0_26, oh0_27, oh0_28, oh0_29, oh0_30, oh0_31, oh0_32, oh0_33, oh0_34, oh0_35, oh0_36, oh0_37])), (h0_parts, .inl (cy 2, 2, .inl v_parts)), (h0_wayMany, .inl (cy 2, 2, .inl v_wayMany)), (h0_persons, .inl (cy 2, 2, .inl v_persons)), (h0_winters, .inl (cy 2, 2, .inl v_winters))] [(h0, .inr (9, [oh0_0, oh0_1, oh0_2, .ref h0_parts, oh0_4, oh0_5, .ref h0_wayMany, oh0_7, .ref h0_persons, oh0_9, oh0_10, oh0_11, .ref h0_winters, oh0_13, oh0_14, oh0_15, oh0_16, oh0_17, oh0_18, oh0_19, oh0_20, .int v_hasInterest, oh0_22, oh0_23, oh0_24, oh0_25, oh0_26, oh0_27, oh0_28, oh0_29, oh0_30, oh0_31, oh0_32, oh0_33, oh0_34, oh0_35, oh0_36, oh0_37])), (h0_parts, .inl (cy 2, 2, .inl v_parts)), (h0_wayMany, .inl (cy 2, 2, .inl v_wayMany)), (h0_persons, .inl (cy 2, 2, .inl v_persons)), (h0_winters, .inl (cy 2, 2, .inl v_winters))] r := by
  unfold f9_isTooMany at hM
  refine ct_oi (cc := cX9_isTooMany) (maxL := 2) (ty := .boolean) (by decide +kernel) rfl (Nat.le_of_ble_eq_true rfl) (lv0 := [(0, .ref h0), (1, .int p1)]) rfl ?_
  intro p e s m args below meth c A Q ls hx hb hts hown hml hK hP hD hS hA hret hl
  have hown : s.vm.findClass RX9 = some m.cls := hown
  have k41 := hts (.fieldLink RX9 41 "CaveYearsModel" "winters" "[I") (List.mem_of_getElem? (i := 5) rfl)
  have iX9 := (fun w h => (List.mem_cons_of_mem _ (List.mem_append_right _ h)) : ∀ w ∈ wsX90, w ∈ wsX9_isTooMany)
  have k141 := hts (.fieldLink RX9 141 "CaveYearsModel" "hasInterest" "Z") (List.mem_of_getElem? (i := 4) rfl)
  have k29 := hts (.fieldLink RX9 29 "CaveYearsModel" "persons" "[I") (List.mem_of_getElem? (i := 3) rfl)
  have k23 := hts (.fieldLink RX9 23 "CaveYearsModel" "wayMany" "[I") (List.mem_of_getElem? (i := 2) rfl)
  have k13 := hts (.fieldLink RX9 13 "CaveYearsModel" "parts" "[I") (List.mem_of_getElem? (i := 1) rfl)
  refine lv_iload_n hx hb dX9_isTooMany_0 rfl (lv_at hl 1 rfl) ?_
  rcases Classical.em (p1 = (0 : Int32)) with c1_0 | c1_0
  · have hM := g_pos c1_0 hM
    refine lv_tableIn (off := 39) (tgt := 40) hx hb dX9_isTooMany_1 (by rw [c1_0]; decide) (by rw [c1_0]; decide) (by rw [c1_0]; decide) (by decide) ?_
    refine lv_aload_n hx hb dX9_isTooMany_40 rfl (lv_at hl 0 rfl) ?_
    refine va_get (D := D) (ci := 9) (v := .ref h0_parts) (C := RX9) (T := TX9) (N := 38) hx hb hts iX9 hown hK hP 0 rfl rfl 3 (by decide) k13 (fun _ h9 => h9) rfl dX9_isTooMany_41 ?_
    refine lv_iconst (v := 1) hx hb dX9_isTooMany_44 (by decide) ?_
    obtain ⟨h45, hM⟩ := gi_some hM
    refine va_iald hx hb hK hP 1 2 rfl rfl h45 dX9_isTooMany_45 ?_
    refine lv_bipush (v := 7) hx hb dX9_isTooMany_46 (by decide) ?_
    refine lv_icmp_ne (tgt := 55) hx hb dX9_isTooMany_48 (by decide) (fun c48 => ?_) (fun c48 => ?_)
    · have hM := g_neg c48 hM
      refine lv_iconst (v := 0) hx hb dX9_isTooMany_55 (by decide) ?_
      obtain rfl := si1 hM
      exact hret _ _ _ _ _ dX9_isTooMany_56 rfl rfl hP hD hS
    · have hM := g_pos c48 hM
      refine lv_iconst (v := 1) hx hb dX9_isTooMany_51 (by decide) ?_
      refine lv_goto (tgt := 56) hx hb dX9_isTooMany_52 (by decide) ?_
      obtain rfl := si1 hM
      exact hret _ _ _ _ _ dX9_isTooMany_56 rfl rfl hP hD hS
  · have hM := g_neg c1_0 hM
    rcases Classical.em (p1 = (1 : Int32)) with c1_1 | c1_1
    · have hM := g_pos c1_1 hM
      refine lv_tableIn (off := 111) (tgt := 112) hx hb dX9_isTooMany_1 (by rw [c1_1]; decide) (by rw [c1_1]; decide) (by rw [c1_1]; decide) (by decide) ?_
      refine lv_iconst (v := 0) hx hb dX9_isTooMany_112 (by decide) ?_
      obtain rfl := si1 hM
      exact hret _ _ _ _ _ dX9_isTooMany_113 rfl rfl hP hD hS
    · have hM := g_neg c1_1 hM
      rcases Classical.em (p1 = (2 : Int32)) with c1_2 | c1_2
      · have hM := g_pos c1_2 hM
        refine lv_tableIn (off := 56) (tgt := 57) hx hb dX9_isTooMany_1 (by rw [c1_2]; decide) (by rw [c1_2]; decide) (by rw [c1_2]; decide) (by decide) ?_
        refine lv_aload_n hx hb dX9_isTooMany_57 rfl (lv_at hl 0 rfl) ?_
        refine va_get (D := D) (ci := 9) (v := .ref h0_wayMany) (C := RX9) (T := TX9) (N := 38) hx hb hts iX9 hown hK hP 0 rfl rfl 6 (by decide) k23 (fun _ h9 => h9) rfl dX9_isTooMany_58 ?_
        refine lv_iconst (v := 1) hx hb dX9_isTooMany_61 (by decide) ?_
        obtain ⟨h62, hM⟩ := gi_some hM
        refine va_iald hx hb hK hP 2 2 rfl rfl h62 dX9_isTooMany_62 ?_
        refine lv_bipush (v := 12) hx hb dX9_isTooMany_63 (by decide) ?_
        refine lv_icmp_ne (tgt := 72) hx hb dX9_isTooMany_65 (by decide) (fun c65 => ?_) (fun c65 => ?_)
        · have hM := g_neg c65 hM
          refine lv_iconst (v := 0) hx hb dX9_isTooMany_72 (by decide) ?_
          obtain rfl := si1 hM
          exact hret _ _ _ _ _ dX9_isTooMany_73 rfl rfl hP hD hS
        · have hM := g_pos c65 hM
          refine lv_iconst (v := 1) hx hb dX9_isTooMany_68 (by decide) ?_
          refine lv_goto (tgt := 73) hx hb dX9_isTooMany_69 (by decide) ?_
          obtain rfl := si1 hM
          exact hret _ _ _ _ _ dX9_isTooMany_73 rfl rfl hP hD hS
      · have hM := g_neg c1_2 hM
        rcases Classical.em (p1 = (3 : Int32)) with c1_3 | c1_3
        · have hM := g_pos c1_3 hM
          refine lv_tableIn (off := 73) (tgt := 74) hx hb dX9_isTooMany_1 (by rw [c1_3]; decide) (by rw [c1_3]; decide) (by rw [c1_3]; decide) (by decide) ?_
          refine lv_aload_n hx hb dX9_isTooMany_74 rfl (lv_at hl 0 rfl) ?_
          refine va_get (D := D) (ci := 9) (v := .ref h0_persons) (C := RX9) (T := TX9) (N := 38) hx hb hts iX9 hown hK hP 0 rfl rfl 8 (by decide) k29 (fun _ h9 => h9) rfl dX9_isTooMany_75 ?_
          refine lv_iconst (v := 1) hx hb dX9_isTooMany_78 (by decide) ?_
          obtain ⟨h79, hM⟩ := gi_some hM
          refine va_iald hx hb hK hP 3 2 rfl rfl h79 dX9_isTooMany_79 ?_
          refine lv_bipush (v := 6) hx hb dX9_isTooMany_80 (by decide) ?_
          refine lv_icmp_ne (tgt := 89) hx hb dX9_isTooMany_82 (by decide) (fun c82 => ?_) (fun c82 => ?_)
          · have hM := g_neg c82 hM
            refine lv_iconst (v := 0) hx hb dX9_isTooMany_89 (by decide) ?_
            obtain rfl := si1 hM
            exact hret _ _ _ _ _ dX9_isTooMany_90 rfl rfl hP hD hS
          · have hM := g_pos c82 hM
            refine lv_iconst (v := 1) hx hb dX9_isTooMany_85 (by decide) ?_
            refine lv_goto (tgt := 90) hx hb dX9_isTooMany_86 (by decide) ?_
            obtain rfl := si1 hM
            exact hret _ _ _ _ _ dX9_isTooMany_90 rfl rfl hP hD hS
        · have hM := g_neg c1_3 hM
          rcases Classical.em (p1 = (4 : Int32)) with c1_4 | c1_4
          · have hM := g_pos c1_4 hM
            refine lv_tableIn (off := 90) (tgt := 91) hx hb dX9_isTooMany_1 (by rw [c1_4]; decide) (by rw [c1_4]; decide) (by rw [c1_4]; decide) (by decide) ?_
            refine lv_aload_n hx hb dX9_isTooMany_91 rfl (lv_at hl 0 rfl) ?_
            refine va_get (D := D) (ci := 9) (v := .int v_hasInterest) (C := RX9) (T := TX9) (N := 38) hx hb hts iX9 hown hK hP 0 rfl rfl 21 (by decide) k141 (fun _ h9 => h9) rfl dX9_isTooMany_92 ?_
            obtain ⟨hz95, hM⟩ := gb_some hM
            obtain rfl := si1 hM
            exact hret _ _ _ _ _ dX9_isTooMany_95 rfl hz95 hP hD hS
          · have hM := g_neg c1_4 hM
            rcases Classical.em (p1 = (5 : Int32)) with c1_5 | c1_5
            · have hM := g_pos c1_5 hM
              refine lv_tableIn (off := 95) (tgt := 96) hx hb dX9_isTooMany_1 (by rw [c1_5]; decide) (by rw [c1_5]; decide) (by rw [c1_5]; decide) (by decide) ?_
              refine lv_aload_n hx hb dX9_isTooMany_96 rfl (lv_at hl 0 rfl) ?_
              refine va_get (D := D) (ci := 9) (v := .ref h0_winters) (C := RX9) (T := TX9) (N := 38) hx hb hts iX9 hown hK hP 0 rfl rfl 12 (by decide) k41 (fun _ h9 => h9) rfl dX9_isTooMany_97 ?_
              refine lv_iconst (v := 1) hx hb dX9_isTooMany_100 (by decide) ?_
              obtain ⟨h101, hM⟩ := gi_some hM
              refine va_iald hx hb hK hP 4 2 rfl rfl h101 dX9_isTooMany_101 ?_
              refine lv_iconst (v := 5) hx hb dX9_isTooMany_102 (by decide) ?_
              refine lv_icmp_ne (tgt := 110) hx hb dX9_isTooMany_103 (by decide) (fun c103 => ?_) (fun c103 => ?_)
              · have hM := g_neg c103 hM
                refine lv_iconst (v := 0) hx hb dX9_isTooMany_110 (by decide) ?_
                obtain rfl := si1 hM
                exact hret _ _ _ _ _ dX9_isTooMany_111 rfl rfl hP hD hS
              · have hM := g_pos c103 hM
                refine lv_iconst (v := 1) hx hb dX9_isTooMany_106 (by decide) ?_
                refine lv_goto (tgt := 111) hx hb dX9_isTooMany_107 (by decide) ?_
                obtain rfl := si1 hM
                exact hret _ _ _ _ _ dX9_isTooMany_111 rfl rfl hP hD hS
            · have hM := g_neg c1_5 hM
              have n1_0 : p1.toInt ≠ 0 := fun q => c1_0 (Int32.toInt_inj.mp (q.trans (by decide)))
              have n1_1 : p1.toInt ≠ 1 := fun q => c1_1 (Int32.toInt_inj.mp (q.trans (by decide)))
              have n1_2 : p1.toInt ≠ 2 := fun q => c1_2 (Int32.toInt_inj.mp (q.trans (by decide)))
              have n1_3 : p1.toInt ≠ 3 := fun q => c1_3 (Int32.toInt_inj.mp (q.trans (by decide)))
              have n1_4 : p1.toInt ≠ 4 := fun q => c1_4 (Int32.toInt_inj.mp (q.trans (by decide)))
              have n1_5 : p1.toInt ≠ 5 := fun q => c1_5 (Int32.toInt_inj.mp (q.trans (by decide)))
              refine lv_tableOut (tgt := 112) hx hb dX9_isTooMany_1 (by omega) (by decide) ?_
              refine lv_iconst (v := 0) hx hb dX9_isTooMany_112 (by decide) ?_
              obtain rfl := si1 hM
              exact hret _ _ _ _ _ dX9_isTooMany_113 rfl rfl hP hD hS
