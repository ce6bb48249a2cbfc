-- ===== X9_in in (III)Z =====
abbrev r9_in : Room := { frames := 0, cells := 0, slots := 0, locals := 0 }
def f9_in (N : Nat) (p1 : Int32) (p2 : Int32) (p3 : Int32) : Option Int32 :=
  if p1 < p2 then (some (0 : Int32)) else (if p3 < p1 then (some (0 : Int32)) else (some (1 : Int32)))
set_option maxHeartbeats 4000000 in
set_option maxRecDepth 100000 in
theorem c9_in (l : Launch) (D : va_G) (cy : Nat → ClassId) (N : Nat) (p1 : Int32) (p2 : Int32) (p3 : Int32) (r : Int32) (hM : f9_in N p1 p2 p3 = some r) (sz : Nat) : CTi l yX9_in wsX9_in r9_in [.int p1, .int p2, .int p3] D cy sz [] [] r := by
  unfold f9_in at hM
  refine ct_oi (cc := cX9_in) (maxL := 3) (ty := .boolean) (by decide +kernel) rfl (Nat.le_of_ble_eq_true rfl) (lv0 := [(0, .int p1), (1, .int p2), (2, .int p3)]) rfl ?_
  intro p e s m args below meth c A Q ls hx hb hts hown hml hK hP hD hS hA hret hl
  have hown : s.vm.findClass RX9 = some m.cls := hown
  refine lv_iload_n hx hb dX9_in_0 rfl (lv_at hl 0 rfl) ?_
  refine lv_iload_n hx hb dX9_in_1 rfl (lv_at hl 1 rfl) ?_
  refine lv_icmp_lt (tgt := 14) hx hb dX9_in_2 (by decide) (fun c2 => ?_) (fun c2 => ?_)
  · have hM := g_pos c2 hM
    refine lv_iconst (v := 0) hx hb dX9_in_14 (by decide) ?_
    obtain rfl := si1 hM
    exact hret _ _ _ _ _ dX9_in_15 rfl rfl hP hD hS
  · have hM := g_neg c2 hM
    refine lv_iload_n hx hb dX9_in_5 rfl (lv_at hl 0 rfl) ?_
    refine lv_iload_n hx hb dX9_in_6 rfl (lv_at hl 2 rfl) ?_
    refine lv_icmp_gt (tgt := 14) hx hb dX9_in_7 (by decide) (fun c7 => ?_) (fun c7 => ?_)
    · have hM := g_pos c7 hM
      refine lv_iconst (v := 0) hx hb dX9_in_14 (by decide) ?_
      obtain rfl := si1 hM
      exact hret _ _ _ _ _ dX9_in_15 rfl rfl hP hD hS
    · have hM := g_neg c7 hM
      refine lv_iconst (v := 1) hx hb dX9_in_10 (by decide) ?_
      refine lv_goto (tgt := 15) hx hb dX9_in_11 (by decide) ?_
      obtain rfl := si1 hM
      exact hret _ _ _ _ _ dX9_in_15 rfl rfl hP hD hS

-- ===== X9_here here ()I =====
abbrev r9_here : Room := { frames := 0, cells := 0, slots := 0, locals := 0 }
def f9_here (N : Nat) (v_typed : Int32) (v_at : Int32) (v_text : Nat → Int32) : Option Int32 :=
  if v_typed ≤ v_at then (some (-1 : Int32)) else (gi v_at 500 (some ((v_text v_at.toNatClampNeg) &&& (255 : Int32))))
set_option maxHeartbeats 4000000 in
set_option maxRecDepth 100000 in
theorem c9_here (l : Launch) (D : va_G) (cy : Nat → ClassId) (N : Nat) (h0 h0_text : Nat) (oh0_0 oh0_3 oh0_4 oh0_5 oh0_6 oh0_7 oh0_8 oh0_9 oh0_10 oh0_11 oh0_12 oh0_13 oh0_14 oh0_16 oh0_17 oh0_18 oh0_19 oh0_20 oh0_21 oh0_22 oh0_23 oh0_24 oh0_25 oh0_26 oh0_27 oh0_28 oh0_29 oh0_30 oh0_31 oh0_32 oh0_33 oh0_34 oh0_35 oh0_36 oh0_37 : Value) (v_typed : Int32) (v_at : Int32) (v_text : Nat → Int32) (r : Int32) (hM : f9_here N v_typed v_at v_text = some r) (sz : Nat) : CTi l yX9_here wsX9_here r9_here [.ref h0] D cy sz [(h0, .inr (9, [oh0_0, .ref h0_text, .int v_typed, oh0_3, oh0_4, oh0_5, oh0_6, oh0_7, oh0_8, oh0_9, oh0_10, oh0_11, oh0_12, oh0_13, oh0_14, .int v_at, oh0_16, oh0_17, oh0_18, oh0_19, oh0_20, oh0_21, oh0_22, oh0_23, oh0_24, oh0_25, oh0_26, oh0_27, oh0_28, oh0_29, oh0_30, oh0_31, oh0_32, oh0_33, oh0_34, oh0_35, oh0_36, oh0_37])), (h0_text, .inl (cy 0, 500, .inl v_text))] [(h0, .inr (9, [oh0_0, .ref h0_text, .int v_typed, oh0_3, oh0_4, oh0_5, oh0_6, oh0_7, oh0_8, oh0_9, oh0_10, oh0_11, oh0_12, oh0_13, oh0_14, .int v_at, oh0_16, oh0_17, oh0_18, oh0_19, oh0_20, oh0_21, oh0_22, oh0_23, oh0_24, oh0_25, oh0_26, oh0_27, oh0_28, oh0_29, oh0_30, oh0_31, oh0_32, oh0_33, oh0_34, oh0_35, oh0_36, oh0_37])), (h0_text, .inl (cy 0, 500, .inl v_text))] r := by
  unfold f9_here at hM
  refine ct_oi (cc := cX9_here) (maxL := 1) (ty := .int) (by decide +kernel) rfl (Nat.le_of_ble_eq_true rfl) (lv0 := [(0, .ref h0)]) rfl ?_
  intro p e s m args below meth c A Q ls hx hb hts hown hml hK hP hD hS hA hret hl
  have hown : s.vm.findClass RX9 = some m.cls := hown
  have k106 := hts (.fieldLink RX9 106 "CaveYearsModel" "at" "I") (List.mem_of_getElem? (i := 1) (by decide +kernel))
  have iX9 := (fun w h => (List.mem_cons_of_mem _ (List.mem_append_right _ h)) : ∀ w ∈ wsX90, w ∈ wsX9_here)
  have k100 := hts (.fieldLink RX9 100 "CaveYearsModel" "typed" "I") (List.mem_of_getElem? (i := 2) (by decide +kernel))
  have k7 := hts (.fieldLink RX9 7 "CaveYearsModel" "text" "[B") (List.mem_of_getElem? (i := 3) (by decide +kernel))
  refine lv_aload_n hx hb dX9_here_0 rfl (lv_at hl 0 rfl) ?_
  refine va_get (D := D) (ci := 9) (v := .int v_at) (C := RX9) (T := TX9) (N := 38) hx hb hts iX9 hown hK hP 0 rfl rfl 15 (by decide) k106 (fun _ h9 => h9) rfl dX9_here_1 ?_
  refine lv_aload_n hx hb dX9_here_4 rfl (lv_at hl 0 rfl) ?_
  refine va_get (D := D) (ci := 9) (v := .int v_typed) (C := RX9) (T := TX9) (N := 38) hx hb hts iX9 hown hK hP 0 rfl rfl 2 (by decide) k100 (fun _ h9 => h9) rfl dX9_here_5 ?_
  refine lv_icmp_ge (tgt := 27) hx hb dX9_here_8 (by decide) (fun c8 => ?_) (fun c8 => ?_)
  · have hM := g_pos c8 hM
    refine lv_iconst (v := -1) hx hb dX9_here_27 (by decide) ?_
    obtain rfl := si1 hM
    exact hret _ _ _ _ _ dX9_here_28 rfl rfl hP hD hS
  · have hM := g_neg c8 hM
    refine lv_aload_n hx hb dX9_here_11 rfl (lv_at hl 0 rfl) ?_
    refine va_get (D := D) (ci := 9) (v := .ref h0_text) (C := RX9) (T := TX9) (N := 38) hx hb hts iX9 hown hK hP 0 rfl rfl 1 (by decide) k7 (fun _ h9 => h9) rfl dX9_here_12 ?_
    refine lv_aload_n hx hb dX9_here_15 rfl (lv_at hl 0 rfl) ?_
    refine va_get (D := D) (ci := 9) (v := .int v_at) (C := RX9) (T := TX9) (N := 38) hx hb hts iX9 hown hK hP 0 rfl rfl 15 (by decide) k106 (fun _ h9 => h9) rfl dX9_here_16 ?_
    obtain ⟨h19, hM⟩ := gi_some hM
    refine va_bald hx hb hK hP 1 0 rfl rfl h19 dX9_here_19 ?_
    refine lv_sipush (v := 255) hx hb dX9_here_20 (by decide) ?_
    refine lv_iand hx hb dX9_here_23 ?_
    refine lv_goto (tgt := 28) hx hb dX9_here_24 (by decide) ?_
    obtain rfl := si1 hM
    exact hret _ _ _ _ _ dX9_here_28 rfl rfl hP hD hS

-- ===== X9_meaning meaning (II)I =====
abbrev r9_meaning : Room := { frames := 0, cells := 0, slots := 0, locals := 0 }
def f9_meaning (N : Nat) (p1 : Int32) (p2 : Int32) : Option Int32 :=
  if p2 ≤ (0 : Int32) then (if p1 = (16819 : Int32) then (some (2 : Int32)) else (if p1 = (316163 : Int32) then (some (0 : Int32)) else (if p1 = (7219835 : Int32) then (some (1 : Int32)) else (if p1 = (232608281 : Int32) then (some (3 : Int32)) else (if p1 = (335098125 : Int32) then (some (5 : Int32)) else (some (9 : Int32))))))) else (if p1 = (136978133 : Int32) then (if p2 = (533 : Int32) then (some (4 : Int32)) else (some (9 : Int32))) else (some (9 : Int32)))
set_option maxHeartbeats 4000000 in
set_option maxRecDepth 100000 in
theorem c9_meaning (l : Launch) (D : va_G) (cy : Nat → ClassId) (N : Nat) (p1 : Int32) (p2 : Int32) (r : Int32) (hM : f9_meaning N p1 p2 = some r) (sz : Nat) : CTi l yX9_meaning wsX9_meaning r9_meaning [.int p1, .int p2] D cy sz [] [] r := by
  unfold f9_meaning at hM
  refine ct_oi (cc := cX9_meaning) (maxL := 2) (ty := .int) (by decide +kernel) rfl (Nat.le_of_ble_eq_true rfl) (lv0 := [(0, .int p1), (1, .int p2)]) rfl ?_
  intro p e s m args below meth c A Q ls hx hb hts hown hml hK hP hD hS hA hret hl
  have hown : s.vm.findClass RX9 = some m.cls := hown
  have k109 := hts (.constant RX9 109 (136978133)) (List.mem_of_getElem? (i := 1) (by decide +kernel))
  refine lv_iload_n hx hb dX9_meaning_0 rfl (lv_at hl 1 rfl) ?_
  refine lv_if_le (tgt := 24) hx hb dX9_meaning_1 (by decide) (fun c1 => ?_) (fun c1 => ?_)
  · have hM := g_pos c1 hM
    refine lv_iload_n hx hb dX9_meaning_24 rfl (lv_at hl 0 rfl) ?_
    rcases Classical.em (p1 = (16819 : Int32)) with c25_16819 | c25_16819
    · have hM := g_pos c25_16819 hM
      refine lv_lookup (off := 55) (tgt := 80) hx hb dX9_meaning_25 (by decide) (by rw [c25_16819]; decide) (by decide) ?_
      refine lv_iconst (v := 2) hx hb dX9_meaning_80 (by decide) ?_
      obtain rfl := si1 hM
      exact hret _ _ _ _ _ dX9_meaning_81 rfl rfl hP hD hS
    · have hM := g_neg c25_16819 hM
      rcases Classical.em (p1 = (316163 : Int32)) with c25_316163 | c25_316163
      · have hM := g_pos c25_316163 hM
        refine lv_lookup (off := 51) (tgt := 76) hx hb dX9_meaning_25 (by decide) (by rw [c25_316163]; decide) (by decide) ?_
        refine lv_iconst (v := 0) hx hb dX9_meaning_76 (by decide) ?_
        obtain rfl := si1 hM
        exact hret _ _ _ _ _ dX9_meaning_77 rfl rfl hP hD hS
      · have hM := g_neg c25_316163 hM
        rcases Classical.em (p1 = (7219835 : Int32)) with c25_7219835 | c25_7219835
        · have hM := g_pos c25_7219835 hM
          refine lv_lookup (off := 53) (tgt := 78) hx hb dX9_meaning_25 (by decide) (by rw [c25_7219835]; decide) (by decide) ?_
          refine lv_iconst (v := 1) hx hb dX9_meaning_78 (by decide) ?_
          obtain rfl := si1 hM
          exact hret _ _ _ _ _ dX9_meaning_79 rfl rfl hP hD hS
        · have hM := g_neg c25_7219835 hM
          rcases Classical.em (p1 = (232608281 : Int32)) with c25_232608281 | c25_232608281
          · have hM := g_pos c25_232608281 hM
            refine lv_lookup (off := 57) (tgt := 82) hx hb dX9_meaning_25 (by decide) (by rw [c25_232608281]; decide) (by decide) ?_
            refine lv_iconst (v := 3) hx hb dX9_meaning_82 (by decide) ?_
            obtain rfl := si1 hM
            exact hret _ _ _ _ _ dX9_meaning_83 rfl rfl hP hD hS
          · have hM := g_neg c25_232608281 hM
            rcases Classical.em (p1 = (335098125 : Int32)) with c25_335098125 | c25_335098125
            · have hM := g_pos c25_335098125 hM
              refine lv_lookup (off := 59) (tgt := 84) hx hb dX9_meaning_25 (by decide) (by rw [c25_335098125]; decide) (by decide) ?_
              refine lv_iconst (v := 5) hx hb dX9_meaning_84 (by decide) ?_
              obtain rfl := si1 hM
              exact hret _ _ _ _ _ dX9_meaning_85 rfl rfl hP hD hS
            · have hM := g_neg c25_335098125 hM
              have n25_16819 : ¬ 16819 = p1.toInt := fun q => c25_16819 (Int32.toInt_inj.mp (q.symm.trans (by decide)))
              have n25_316163 : ¬ 316163 = p1.toInt := fun q => c25_316163 (Int32.toInt_inj.mp (q.symm.trans (by decide)))
              have n25_7219835 : ¬ 7219835 = p1.toInt := fun q => c25_7219835 (Int32.toInt_inj.mp (q.symm.trans (by decide)))
              have n25_232608281 : ¬ 232608281 = p1.toInt := fun q => c25_232608281 (Int32.toInt_inj.mp (q.symm.trans (by decide)))
              have n25_335098125 : ¬ 335098125 = p1.toInt := fun q => c25_335098125 (Int32.toInt_inj.mp (q.symm.trans (by decide)))
              refine lv_lookup (tgt := 86) (off := 61) hx hb dX9_meaning_25 (by decide) (by simp [Op.lookupswitch.offset, n25_16819, n25_316163, n25_7219835, n25_232608281, n25_335098125]) (by decide) ?_
              refine lv_bipush (v := 9) hx hb dX9_meaning_86 (by decide) ?_
              obtain rfl := si1 hM
              exact hret _ _ _ _ _ dX9_meaning_88 rfl rfl hP hD hS
  · have hM := g_neg c1 hM
    refine lv_iload_n hx hb dX9_meaning_4 rfl (lv_at hl 0 rfl) ?_
    refine lv_ldc (v := 136978133) hx hb hown k109 dX9_meaning_5 ?_
    refine lv_icmp_ne (tgt := 21) hx hb dX9_meaning_7 (by decide) (fun c7 => ?_) (fun c7 => ?_)
    · have hM := g_neg c7 hM
      refine lv_bipush (v := 9) hx hb dX9_meaning_21 (by decide) ?_
      obtain rfl := si1 hM
      exact hret _ _ _ _ _ dX9_meaning_23 rfl rfl hP hD hS
    · have hM := g_pos c7 hM
      refine lv_iload_n hx hb dX9_meaning_10 rfl (lv_at hl 1 rfl) ?_
      refine lv_sipush (v := 533) hx hb dX9_meaning_11 (by decide) ?_
      refine lv_icmp_ne (tgt := 21) hx hb dX9_meaning_14 (by decide) (fun c14 => ?_) (fun c14 => ?_)
      · have hM := g_neg c14 hM
        refine lv_bipush (v := 9) hx hb dX9_meaning_21 (by decide) ?_
        obtain rfl := si1 hM
        exact hret _ _ _ _ _ dX9_meaning_23 rfl rfl hP hD hS
      · have hM := g_pos c14 hM
        refine lv_iconst (v := 4) hx hb dX9_meaning_17 (by decide) ?_
        refine lv_goto (tgt := 23) hx hb dX9_meaning_18 (by decide) ?_
        obtain rfl := si1 hM
        exact hret _ _ _ _ _ dX9_meaning_23 rfl rfl hP hD hS
