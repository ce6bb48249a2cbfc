-- ===== X9_wrong wrong ()I =====
abbrev r9_wrong : Room := { frames := 3, cells := 0, slots := 0, locals := 64 }
def f9_wrong_L26 (N : Nat) (v_stayMany : Int32) (v_parts : Nat → Int32) (v_ways : Nat → Int32) (v_mouths : Nat → Int32) (v_stay : Nat → Int32) : Nat → Int32 → Option Int32
  | 0, _ => none
  | n + 1, x1_26 => if v_stayMany ≤ x1_26 then (gi (v_stayMany - (1 : Int32)) 40 (ob1 (f9_isMouth N (v_stay (v_stayMany - (1 : Int32)).toNatClampNeg) v_parts v_mouths) fun r75 => if r75 = (0 : Int32) then (some v_stayMany) else (some (-1 : Int32)))) else (gi (x1_26 - (1 : Int32)) 40 (gi x1_26 40 (ob1 (f9_isStep N (v_stay (x1_26 - (1 : Int32)).toNatClampNeg) (v_stay x1_26.toNatClampNeg) v_ways) fun r49 => if r49 = (0 : Int32) then (some x1_26) else ((f9_wrong_L26 N v_stayMany v_parts v_ways v_mouths v_stay n) (x1_26 + (1 : Int32))))))
def f9_wrong (N : Nat) (v_stayMany : Int32) (v_parts : Nat → Int32) (v_ways : Nat → Int32) (v_mouths : Nat → Int32) (v_stay : Nat → Int32) : Option Int32 :=
  if v_stayMany = (0 : Int32) then (some (-1 : Int32)) else (gi (0 : Int32) 40 (ob1 (f9_isMouth N (v_stay (0 : Int32).toNatClampNeg) v_parts v_mouths) fun r16 => if r16 = (0 : Int32) then (some (0 : Int32)) else (f9_wrong_L26 N v_stayMany v_parts v_ways v_mouths v_stay N (1 : Int32))))
set_option maxHeartbeats 4000000 in
set_option maxRecDepth 100000 in
theorem c9_wrong (l : Launch) (D : va_G) (cy : Nat → ClassId) (N : Nat) (h0 h0_parts h0_ways h0_mouths h0_stay : Nat) (oh0_0 oh0_1 oh0_2 oh0_4 oh0_6 oh0_8 oh0_9 oh0_10 oh0_11 oh0_12 oh0_13 oh0_14 oh0_15 oh0_16 oh0_17 oh0_18 oh0_19 oh0_20 oh0_21 oh0_22 oh0_23 oh0_26 oh0_27 oh0_28 oh0_29 oh0_30 oh0_31 oh0_32 oh0_33 oh0_34 oh0_35 oh0_36 oh0_37 : Value) (v_stayMany : Int32) (v_parts : Nat → Int32) (v_ways : Nat → Int32) (v_mouths : Nat → Int32) (v_stay : Nat → Int32) (r : Int32) (hM : f9_wrong N v_stayMany v_parts v_ways v_mouths v_stay = some r) (sz : Nat) : CTi l yX9_wrong wsX9_wrong r9_wrong [.ref h0] D cy sz [(h0, .inr (9, [oh0_0, oh0_1, oh0_2, .ref h0_parts, oh0_4, .ref h0_ways, oh0_6, .ref h0_mouths, oh0_8, oh0_9, oh0_10, oh0_11, oh0_12, oh0_13, oh0_14, oh0_15, oh0_16, oh0_17, oh0_18, oh0_19, oh0_20, oh0_21, oh0_22, oh0_23, .ref h0_stay, .int v_stayMany, oh0_26, oh0_27, oh0_28, oh0_29, oh0_30, oh0_31, oh0_32, oh0_33, oh0_34, oh0_35, oh0_36, oh0_37])), (h0_parts, .inl (cy 2, 2, .inl v_parts)), (h0_ways, .inl (cy 2, 14, .inl v_ways)), (h0_mouths, .inl (cy 2, 2, .inl v_mouths)), (h0_stay, .inl (cy 2, 40, .inl v_stay))] [(h0, .inr (9, [oh0_0, oh0_1, oh0_2, .ref h0_parts, oh0_4, .ref h0_ways, oh0_6, .ref h0_mouths, oh0_8, oh0_9, oh0_10, oh0_11, oh0_12, oh0_13, oh0_14, oh0_15, oh0_16, oh0_17, oh0_18, oh0_19, oh0_20, oh0_21, oh0_22, oh0_23, .ref h0_stay, .int v_stayMany, oh0_26, oh0_27, oh0_28, oh0_29, oh0_30, oh0_31, oh0_32, oh0_33, oh0_34, oh0_35, oh0_36, oh0_37])), (h0_parts, .inl (cy 2, 2, .inl v_parts)), (h0_ways, .inl (cy 2, 14, .inl v_ways)), (h0_mouths, .inl (cy 2, 2, .inl v_mouths)), (h0_stay, .inl (cy 2, 40, .inl v_stay))] r := by
  unfold f9_wrong at hM
  refine ct_oi (cc := cX9_wrong) (maxL := 2) (ty := .int) (by decide +kernel) rfl (Nat.le_of_ble_eq_true rfl) (lv0 := [(0, .ref h0)]) rfl ?_
  intro p e s m args below meth c A Q ls hx hb hts hown hml hK hP hD hS hA hret hl
  have hown : s.vm.findClass RX9 = some m.cls := hown
  have k159 := hts (.fieldLink RX9 159 "CaveYearsModel" "stayMany" "I") (List.mem_of_getElem? (i := 1) (by decide +kernel))
  have iX9 := (fun w h => (List.mem_cons_of_mem _ (List.mem_append_right _ h)) : ∀ w ∈ wsX90, w ∈ wsX9_wrong)
  have k57 := hts (.fieldLink RX9 57 "CaveYearsModel" "stay" "[I") (List.mem_of_getElem? (i := 2) (by decide +kernel))
  refine lv_aload_n hx hb dX9_wrong_0 rfl (lv_at hl 0 rfl) ?_
  refine va_get (D := D) (ci := 9) (v := .int v_stayMany) (C := RX9) (T := TX9) (N := 38) hx hb hts iX9 hown hK hP 0 rfl rfl 25 (by decide) k159 (fun _ h9 => h9) rfl dX9_wrong_1 ?_
  refine lv_if_ne (tgt := 9) hx hb dX9_wrong_4 (by decide) (fun c4 => ?_) (fun c4 => ?_)
  · have hM := g_neg c4 hM
    refine lv_aload_n hx hb dX9_wrong_9 rfl (lv_at hl 0 rfl) ?_
    refine lv_aload_n hx hb dX9_wrong_10 rfl (lv_at hl 0 rfl) ?_
    refine va_get (D := D) (ci := 9) (v := .ref h0_stay) (C := RX9) (T := TX9) (N := 38) hx hb hts iX9 hown hK hP 0 rfl rfl 24 (by decide) k57 (fun _ h9 => h9) rfl dX9_wrong_11 ?_
    refine lv_iconst (v := 0) hx hb dX9_wrong_14 (by decide) ?_
    obtain ⟨h15, hM⟩ := gi_some hM
    refine va_iald hx hb hK hP 4 2 rfl rfl h15 dX9_wrong_15 ?_
    obtain ⟨r16, hc16, hM⟩ := ob1_some hM
    refine cl_vi (As := [.int (v_stay (0 : Int32).toNatClampNeg)]) (rest := []) (ci := 9) (q0 := 0) (wr := [(h0_ways, .inl (cy 2, 14, .inl v_ways)), (h0_stay, .inl (cy 2, 40, .inl v_stay))]) (ws2 := [(h0, .inr (9, [oh0_0, oh0_1, oh0_2, .ref h0_parts, oh0_4, .ref h0_ways, oh0_6, .ref h0_mouths, oh0_8, oh0_9, oh0_10, oh0_11, oh0_12, oh0_13, oh0_14, oh0_15, oh0_16, oh0_17, oh0_18, oh0_19, oh0_20, oh0_21, oh0_22, oh0_23, .ref h0_stay, .int v_stayMany, oh0_26, oh0_27, oh0_28, oh0_29, oh0_30, oh0_31, oh0_32, oh0_33, oh0_34, oh0_35, oh0_36, oh0_37])), (h0_parts, .inl (cy 2, 2, .inl v_parts)), (h0_ways, .inl (cy 2, 14, .inl v_ways)), (h0_mouths, .inl (cy 2, 2, .inl v_mouths)), (h0_stay, .inl (cy 2, 40, .inl v_stay))]) (isC := [0, 1, 3]) (isR := [2, 4]) (pm := [2, 3, 0, 4, 1]) hx hb hml hown hts (c9_isMouth l D cy N h0 h0_parts h0_mouths oh0_0 oh0_1 oh0_2 oh0_4 (.ref h0_ways) oh0_6 oh0_8 oh0_9 oh0_10 oh0_11 oh0_12 oh0_13 oh0_14 oh0_15 oh0_16 oh0_17 oh0_18 oh0_19 oh0_20 oh0_21 oh0_22 oh0_23 (.ref h0_stay) (.int v_stayMany) oh0_26 oh0_27 oh0_28 oh0_29 oh0_30 oh0_31 oh0_32 oh0_33 oh0_34 oh0_35 oh0_36 oh0_37 (v_stay (0 : Int32).toNatClampNeg) v_parts v_mouths r16 hc16) (cwV 1 hts gX9_wrong_X9_isMouth rfl rfl rfl (by decide +kernel) ⟨Nat.le_of_ble_eq_true rfl, Nat.le_of_ble_eq_true rfl⟩) hK hP hD hS hA rfl rfl rfl rfl rfl (by decide) rfl rfl rfl hl.1 (Nat.le_of_ble_eq_true rfl) dX9_wrong_16 ⟨Nat.zero_le _, Nat.zero_le _⟩ rfl rfl (fun H locs hP hD hS => ?_)
    refine lv_if_ne (tgt := 24) hx hb dX9_wrong_19 (by decide) (fun c19 => ?_) (fun c19 => ?_)
    · have hM := g_neg c19 hM
      refine lv_iconst (v := 1) hx hb dX9_wrong_24 (by decide) ?_
      refine lv_istore_n (lv' := [(1, .int (1 : Int32)), (0, .ref h0)]) hx hb dX9_wrong_25 rfl hl (by decide) rfl (fun ls hl => ?_)
      have L26 : ∀ (n : Nat) (x1_26 : Int32) (H : Heap) (locs : List Loc) (ls : Array Slot), f9_wrong_L26 N v_stayMany v_parts v_ways v_mouths v_stay n x1_26 = some r → va_P D vwCl [(h0, .inr (9, [oh0_0, oh0_1, oh0_2, .ref h0_parts, oh0_4, .ref h0_ways, oh0_6, .ref h0_mouths, oh0_8, oh0_9, oh0_10, oh0_11, oh0_12, oh0_13, oh0_14, oh0_15, oh0_16, oh0_17, oh0_18, oh0_19, oh0_20, oh0_21, oh0_22, oh0_23, .ref h0_stay, .int v_stayMany, oh0_26, oh0_27, oh0_28, oh0_29, oh0_30, oh0_31, oh0_32, oh0_33, oh0_34, oh0_35, oh0_36, oh0_37])), (h0_parts, .inl (cy 2, 2, .inl v_parts)), (h0_ways, .inl (cy 2, 14, .inl v_ways)), (h0_mouths, .inl (cy 2, 2, .inl v_mouths)), (h0_stay, .inl (cy 2, 40, .inl v_stay))] H → va_D A [(h0, .inr (9, [oh0_0, oh0_1, oh0_2, .ref h0_parts, oh0_4, .ref h0_ways, oh0_6, .ref h0_mouths, oh0_8, oh0_9, oh0_10, oh0_11, oh0_12, oh0_13, oh0_14, oh0_15, oh0_16, oh0_17, oh0_18, oh0_19, oh0_20, oh0_21, oh0_22, oh0_23, .ref h0_stay, .int v_stayMany, oh0_26, oh0_27, oh0_28, oh0_29, oh0_30, oh0_31, oh0_32, oh0_33, oh0_34, oh0_35, oh0_36, oh0_37])), (h0_parts, .inl (cy 2, 2, .inl v_parts)), (h0_ways, .inl (cy 2, 14, .inl v_ways)), (h0_mouths, .inl (cy 2, 2, .inl v_mouths)), (h0_stay, .inl (cy 2, 40, .inl v_stay))] → va_S A s.heap H locs → lv_has ls 2 [(0, .ref h0), (1, .int x1_26)] → W p l e r9_wrong s m args below meth c H locs 0 0 Q (F0 m 26 ls []) := by
        intro n26
        induction n26 with
        | zero =>
          intro x1_26 H locs ls hM
          exact absurd hM (by simp [f9_wrong_L26])
        | succ n26 ih26 =>
          intro x1_26 H locs ls hM hP hD hS hl
          rw [f9_wrong_L26] at hM
          refine lv_iload_n hx hb dX9_wrong_26 rfl (lv_at hl 1 rfl) ?_
          refine lv_aload_n hx hb dX9_wrong_27 rfl (lv_at hl 0 rfl) ?_
          refine va_get (D := D) (ci := 9) (v := .int v_stayMany) (C := RX9) (T := TX9) (N := 38) hx hb hts iX9 hown hK hP 0 rfl rfl 25 (by decide) k159 (fun _ h9 => h9) rfl dX9_wrong_28 ?_
          refine lv_icmp_ge (tgt := 63) hx hb dX9_wrong_31 (by decide) (fun c31 => ?_) (fun c31 => ?_)
          · have hM := g_pos c31 hM
            refine lv_aload_n hx hb dX9_wrong_63 rfl (lv_at hl 0 rfl) ?_
            refine lv_aload_n hx hb dX9_wrong_64 rfl (lv_at hl 0 rfl) ?_
            refine va_get (D := D) (ci := 9) (v := .ref h0_stay) (C := RX9) (T := TX9) (N := 38) hx hb hts iX9 hown hK hP 0 rfl rfl 24 (by decide) k57 (fun _ h9 => h9) rfl dX9_wrong_65 ?_
            refine lv_aload_n hx hb dX9_wrong_68 rfl (lv_at hl 0 rfl) ?_
            refine va_get (D := D) (ci := 9) (v := .int v_stayMany) (C := RX9) (T := TX9) (N := 38) hx hb hts iX9 hown hK hP 0 rfl rfl 25 (by decide) k159 (fun _ h9 => h9) rfl dX9_wrong_69 ?_
            refine lv_iconst (v := 1) hx hb dX9_wrong_72 (by decide) ?_
            refine lv_isub hx hb dX9_wrong_73 ?_
            obtain ⟨h74, hM⟩ := gi_some hM
            refine va_iald hx hb hK hP 4 2 rfl rfl h74 dX9_wrong_74 ?_
            obtain ⟨r75, hc75, hM⟩ := ob1_some hM
            refine cl_vi (As := [.int (v_stay (v_stayMany - (1 : Int32)).toNatClampNeg)]) (rest := []) (ci := 9) (q0 := 0) (wr := [(h0_ways, .inl (cy 2, 14, .inl v_ways)), (h0_stay, .inl (cy 2, 40, .inl v_stay))]) (ws2 := [(h0, .inr (9, [oh0_0, oh0_1, oh0_2, .ref h0_parts, oh0_4, .ref h0_ways, oh0_6, .ref h0_mouths, oh0_8, oh0_9, oh0_10, oh0_11, oh0_12, oh0_13, oh0_14, oh0_15, oh0_16, oh0_17, oh0_18, oh0_19, oh0_20, oh0_21, oh0_22, oh0_23, .ref h0_stay, .int v_stayMany, oh0_26, oh0_27, oh0_28, oh0_29, oh0_30, oh0_31, oh0_32, oh0_33, oh0_34, oh0_35, oh0_36, oh0_37])), (h0_parts, .inl (cy 2, 2, .inl v_parts)), (h0_ways, .inl (cy 2, 14, .inl v_ways)), (h0_mouths, .inl (cy 2, 2, .inl v_mouths)), (h0_stay, .inl (cy 2, 40, .inl v_stay))]) (isC := [0, 1, 3]) (isR := [2, 4]) (pm := [2, 3, 0, 4, 1]) hx hb hml hown hts (c9_isMouth l D cy N h0 h0_parts h0_mouths oh0_0 oh0_1 oh0_2 oh0_4 (.ref h0_ways) oh0_6 oh0_8 oh0_9 oh0_10 oh0_11 oh0_12 oh0_13 oh0_14 oh0_15 oh0_16 oh0_17 oh0_18 oh0_19 oh0_20 oh0_21 oh0_22 oh0_23 (.ref h0_stay) (.int v_stayMany) oh0_26 oh0_27 oh0_28 oh0_29 oh0_30 oh0_31 oh0_32 oh0_33 oh0_34 oh0_35 oh0_36 oh0_37 (v_stay (v_stayMany - (1 : Int32)).toNatClampNeg) v_parts v_mouths r75 hc75) (cwV 1 hts gX9_wrong_X9_isMouth rfl rfl rfl (by decide +kernel) ⟨Nat.le_of_ble_eq_true rfl, Nat.le_of_ble_eq_true rfl⟩) hK hP hD hS hA rfl rfl rfl rfl rfl (by decide) rfl rfl rfl hl.1 (Nat.le_of_ble_eq_true rfl) dX9_wrong_75 ⟨Nat.zero_le _, Nat.zero_le _⟩ rfl rfl (fun H locs hP hD hS => ?_)
            refine lv_if_eq (tgt := 85) hx hb dX9_wrong_78 (by decide) (fun c78 => ?_) (fun c78 => ?_)
            · have hM := g_pos c78 hM
              refine lv_aload_n hx hb dX9_wrong_85 rfl (lv_at hl 0 rfl) ?_
              refine va_get (D := D) (ci := 9) (v := .int v_stayMany) (C := RX9) (T := TX9) (N := 38) hx hb hts iX9 hown hK hP 0 rfl rfl 25 (by decide) k159 (fun _ h9 => h9) rfl dX9_wrong_86 ?_
              obtain rfl := si1 hM
              exact hret _ _ _ _ _ dX9_wrong_89 rfl rfl hP hD hS
            · have hM := g_neg c78 hM
              refine lv_iconst (v := -1) hx hb dX9_wrong_81 (by decide) ?_
              refine lv_goto (tgt := 89) hx hb dX9_wrong_82 (by decide) ?_
              obtain rfl := si1 hM
              exact hret _ _ _ _ _ dX9_wrong_89 rfl rfl hP hD hS
          · have hM := g_neg c31 hM
            refine lv_aload_n hx hb dX9_wrong_34 rfl (lv_at hl 0 rfl) ?_
            refine lv_aload_n hx hb dX9_wrong_35 rfl (lv_at hl 0 rfl) ?_
            refine va_get (D := D) (ci := 9) (v := .ref h0_stay) (C := RX9) (T := TX9) (N := 38) hx hb hts iX9 hown hK hP 0 rfl rfl 24 (by decide) k57 (fun _ h9 => h9) rfl dX9_wrong_36 ?_
            refine lv_iload_n hx hb dX9_wrong_39 rfl (lv_at hl 1 rfl) ?_
            refine lv_iconst (v := 1) hx hb dX9_wrong_40 (by decide) ?_
            refine lv_isub hx hb dX9_wrong_41 ?_
            obtain ⟨h42, hM⟩ := gi_some hM
            refine va_iald hx hb hK hP 4 2 rfl rfl h42 dX9_wrong_42 ?_
            refine lv_aload_n hx hb dX9_wrong_43 rfl (lv_at hl 0 rfl) ?_
            refine va_get (D := D) (ci := 9) (v := .ref h0_stay) (C := RX9) (T := TX9) (N := 38) hx hb hts iX9 hown hK hP 0 rfl rfl 24 (by decide) k57 (fun _ h9 => h9) rfl dX9_wrong_44 ?_
            refine lv_iload_n hx hb dX9_wrong_47 rfl (lv_at hl 1 rfl) ?_
            obtain ⟨h48, hM⟩ := gi_some hM
            refine va_iald hx hb hK hP 4 2 rfl rfl h48 dX9_wrong_48 ?_
            obtain ⟨r49, hc49, hM⟩ := ob1_some hM
            refine cl_vi (As := [.int (v_stay (x1_26 - (1 : Int32)).toNatClampNeg), .int (v_stay x1_26.toNatClampNeg)]) (rest := []) (ci := 9) (q0 := 0) (wr := [(h0_parts, .inl (cy 2, 2, .inl v_parts)), (h0_mouths, .inl (cy 2, 2, .inl v_mouths)), (h0_stay, .inl (cy 2, 40, .inl v_stay))]) (ws2 := [(h0, .inr (9, [oh0_0, oh0_1, oh0_2, .ref h0_parts, oh0_4, .ref h0_ways, oh0_6, .ref h0_mouths, oh0_8, oh0_9, oh0_10, oh0_11, oh0_12, oh0_13, oh0_14, oh0_15, oh0_16, oh0_17, oh0_18, oh0_19, oh0_20, oh0_21, oh0_22, oh0_23, .ref h0_stay, .int v_stayMany, oh0_26, oh0_27, oh0_28, oh0_29, oh0_30, oh0_31, oh0_32, oh0_33, oh0_34, oh0_35, oh0_36, oh0_37])), (h0_parts, .inl (cy 2, 2, .inl v_parts)), (h0_ways, .inl (cy 2, 14, .inl v_ways)), (h0_mouths, .inl (cy 2, 2, .inl v_mouths)), (h0_stay, .inl (cy 2, 40, .inl v_stay))]) (isC := [0, 2]) (isR := [1, 3, 4]) (pm := [3, 0, 4, 1, 2]) hx hb hml hown hts (c9_isStep l D cy N h0 h0_ways oh0_0 oh0_1 oh0_2 (.ref h0_parts) oh0_4 oh0_6 (.ref h0_mouths) oh0_8 oh0_9 oh0_10 oh0_11 oh0_12 oh0_13 oh0_14 oh0_15 oh0_16 oh0_17 oh0_18 oh0_19 oh0_20 oh0_21 oh0_22 oh0_23 (.ref h0_stay) (.int v_stayMany) oh0_26 oh0_27 oh0_28 oh0_29 oh0_30 oh0_31 oh0_32 oh0_33 oh0_34 oh0_35 oh0_36 oh0_37 (v_stay (x1_26 - (1 : Int32)).toNatClampNeg) (v_stay x1_26.toNatClampNeg) v_ways r49 hc49) (cwV 2 hts gX9_wrong_X9_isStep rfl rfl rfl (by decide +kernel) ⟨Nat.le_of_ble_eq_true rfl, Nat.le_of_ble_eq_true rfl⟩) hK hP hD hS hA rfl rfl rfl rfl rfl (by decide) rfl rfl rfl hl.1 (Nat.le_of_ble_eq_true rfl) dX9_wrong_49 ⟨Nat.zero_le _, Nat.zero_le _⟩ rfl rfl (fun H locs hP hD hS => ?_)
            refine lv_if_ne (tgt := 57) hx hb dX9_wrong_52 (by decide) (fun c52 => ?_) (fun c52 => ?_)
            · have hM := g_neg c52 hM
              refine lv_iinc (v := x1_26 + (1 : Int32)) (lv' := [(1, .int (x1_26 + (1 : Int32))), (0, .ref h0)]) hx hb dX9_wrong_57 hl (k := 1) rfl rfl (by decide) rfl (fun ls hl => ?_)
              refine lv_goto (tgt := 26) hx hb dX9_wrong_60 (by decide) ?_
              exact ih26 (x1_26 + (1 : Int32)) _ _ _ hM hP hD hS (lv_sub hl [1, 0] rfl)
            · have hM := g_pos c52 hM
              refine lv_iload_n hx hb dX9_wrong_55 rfl (lv_at hl 1 rfl) ?_
              obtain rfl := si1 hM
              exact hret _ _ _ _ _ dX9_wrong_56 rfl rfl hP hD hS
      exact L26 N (1 : Int32) _ _ _ hM hP hD hS (lv_sub hl [1, 0] rfl)
    · have hM := g_pos c19 hM
      refine lv_iconst (v := 0) hx hb dX9_wrong_22 (by decide) ?_
      obtain rfl := si1 hM
      exact hret _ _ _ _ _ dX9_wrong_23 rfl rfl hP hD hS
  · have hM := g_pos c4 hM
    refine lv_iconst (v := -1) hx hb dX9_wrong_7 (by decide) ?_
    obtain rfl := si1 hM
    exact hret _ _ _ _ _ dX9_wrong_8 rfl rfl hP hD hS

-- ===== X9_judge judge ()I =====
abbrev r9_judge : Room := { frames := 4, cells := 0, slots := 0, locals := 85 }
def f9_judge (N : Nat) (v_stayMany : Int32) (v_parts : Nat → Int32) (v_ways : Nat → Int32) (v_mouths : Nat → Int32) (v_stay : Nat → Int32) : Option Int32 :=
  ob1 (f9_wrong N v_stayMany v_parts v_ways v_mouths v_stay) fun r1 => some r1
set_option maxHeartbeats 4000000 in
set_option maxRecDepth 100000 in
theorem c9_judge (l : Launch) (D : va_G) (cy : Nat → ClassId) (N : Nat) (h0 h0_parts h0_ways h0_mouths h0_stay : Nat) (oh0_0 oh0_1 oh0_2 oh0_4 oh0_6 oh0_8 oh0_9 oh0_10 oh0_11 oh0_12 oh0_13 oh0_14 oh0_15 oh0_16 oh0_17 oh0_18 oh0_19 oh0_20 oh0_21 oh0_22 oh0_23 oh0_26 oh0_27 oh0_28 oh0_29 oh0_30 oh0_31 oh0_32 oh0_33 oh0_34 oh0_35 oh0_36 oh0_37 : Value) (v_stayMany : Int32) (v_parts : Nat → Int32) (v_ways : Nat → Int32) (v_mouths : Nat → Int32) (v_stay : Nat → Int32) (r : Int32) (hM : f9_judge N v_stayMany v_parts v_ways v_mouths v_stay = some r) (sz : Nat) : CTi l yX9_judge wsX9_judge r9_judge [.ref h0] D cy sz [(h0, .inr (9, [oh0_0, oh0_1, oh0_2, .ref h0_parts, oh0_4, .ref h0_ways, oh0_6, .ref h0_mouths, oh0_8, oh0_9, oh0_10, oh0_11, oh0_12, oh0_13, oh0_14, oh0_15, oh0_16, oh0_17, oh0_18, oh0_19, oh0_20, oh0_21, oh0_22, oh0_23, .ref h0_stay, .int v_stayMany, oh0_26, oh0_27, oh0_28, oh0_29, oh0_30, oh0_31, oh0_32, oh0_33, oh0_34, oh0_35, oh0_36, oh0_37])), (h0_parts, .inl (cy 2, 2, .inl v_parts)), (h0_ways, .inl (cy 2, 14, .inl v_ways)), (h0_mouths, .inl (cy 2, 2, .inl v_mouths)), (h0_stay, .inl (cy 2, 40, .inl v_stay))] [(h0, .inr (9, [oh0_0, oh0_1, oh0_2, .ref h0_parts, oh0_4, .ref h0_ways, oh0_6, .ref h0_mouths, oh0_8, oh0_9, oh0_10, oh0_11, oh0_12, oh0_13, oh0_14, oh0_15, oh0_16, oh0_17, oh0_18, oh0_19, oh0_20, oh0_21, oh0_22, oh0_23, .ref h0_stay, .int v_stayMany, oh0_26, oh0_27, oh0_28, oh0_29, oh0_30, oh0_31, oh0_32, oh0_33, oh0_34, oh0_35, oh0_36, oh0_37])), (h0_parts, .inl (cy 2, 2, .inl v_parts)), (h0_ways, .inl (cy 2, 14, .inl v_ways)), (h0_mouths, .inl (cy 2, 2, .inl v_mouths)), (h0_stay, .inl (cy 2, 40, .inl v_stay))] r := by
  unfold f9_judge at hM
  refine ct_oi (cc := cX9_judge) (maxL := 1) (ty := .int) (by decide +kernel) rfl (Nat.le_of_ble_eq_true rfl) (lv0 := [(0, .ref h0)]) rfl ?_
  intro p e s m args below meth c A Q ls hx hb hts hown hml hK hP hD hS hA hret hl
  have hown : s.vm.findClass RX9 = some m.cls := hown
  refine lv_aload_n hx hb dX9_judge_0 rfl (lv_at hl 0 rfl) ?_
  obtain ⟨r1, hc1, hM⟩ := ob1_some hM
  refine cl_vi (As := []) (rest := []) (ci := 9) (q0 := 0) (wr := []) (ws2 := [(h0, .inr (9, [oh0_0, oh0_1, oh0_2, .ref h0_parts, oh0_4, .ref h0_ways, oh0_6, .ref h0_mouths, oh0_8, oh0_9, oh0_10, oh0_11, oh0_12, oh0_13, oh0_14, oh0_15, oh0_16, oh0_17, oh0_18, oh0_19, oh0_20, oh0_21, oh0_22, oh0_23, .ref h0_stay, .int v_stayMany, oh0_26, oh0_27, oh0_28, oh0_29, oh0_30, oh0_31, oh0_32, oh0_33, oh0_34, oh0_35, oh0_36, oh0_37])), (h0_parts, .inl (cy 2, 2, .inl v_parts)), (h0_ways, .inl (cy 2, 14, .inl v_ways)), (h0_mouths, .inl (cy 2, 2, .inl v_mouths)), (h0_stay, .inl (cy 2, 40, .inl v_stay))]) (isC := [0, 1, 2, 3, 4]) (isR := []) (pm := [0, 1, 2, 3, 4]) hx hb hml hown hts (c9_wrong l D cy N h0 h0_parts h0_ways h0_mouths h0_stay oh0_0 oh0_1 oh0_2 oh0_4 oh0_6 oh0_8 oh0_9 oh0_10 oh0_11 oh0_12 oh0_13 oh0_14 oh0_15 oh0_16 oh0_17 oh0_18 oh0_19 oh0_20 oh0_21 oh0_22 oh0_23 oh0_26 oh0_27 oh0_28 oh0_29 oh0_30 oh0_31 oh0_32 oh0_33 oh0_34 oh0_35 oh0_36 oh0_37 v_stayMany v_parts v_ways v_mouths v_stay r1 hc1) (cwV 0 hts gX9_judge_X9_wrong rfl rfl rfl (by decide +kernel) ⟨Nat.le_of_ble_eq_true rfl, Nat.le_of_ble_eq_true rfl⟩) hK hP hD hS hA rfl rfl rfl rfl rfl (by decide) rfl rfl rfl hl.1 (Nat.le_of_ble_eq_true rfl) dX9_judge_1 ⟨Nat.zero_le _, Nat.zero_le _⟩ rfl rfl (fun H locs hP hD hS => ?_)
  obtain rfl := si1 hM
  exact hret _ _ _ _ _ dX9_judge_4 rfl rfl hP hD hS

-- ===== X9_goIn goIn (III)V =====
abbrev r9_goIn : Room := { frames := 0, cells := 0, slots := 0, locals := 0 }
def f9_goIn (N : Nat) (p1 : Int32) (p2 : Int32) (p3 : Int32) (v_now : Nat → Int32) : Option (Nat → Int32) :=
  gi ((1 : Int32) + p1) 60 (gi ((1 : Int32) + p1) 60 (gi (0 : Int32) 60 (gi ((13 : Int32) + p1) 60 (some (upd (upd v_now ((1 : Int32) + p1).toNatClampNeg ((v_now ((1 : Int32) + p1).toNatClampNeg) + p2)) ((13 : Int32) + p1).toNatClampNeg (((upd v_now ((1 : Int32) + p1).toNatClampNeg ((v_now ((1 : Int32) + p1).toNatClampNeg) + p2)) (0 : Int32).toNatClampNeg) + p3))))))
set_option maxHeartbeats 4000000 in
set_option maxRecDepth 100000 in
theorem c9_goIn (l : Launch) (D : va_G) (cy : Nat → ClassId) (N : Nat) (h0 h0_now : Nat) (oh0_0 oh0_1 oh0_2 oh0_3 oh0_4 oh0_5 oh0_6 oh0_7 oh0_8 oh0_9 oh0_10 oh0_11 oh0_12 oh0_13 oh0_14 oh0_15 oh0_16 oh0_17 oh0_18 oh0_19 oh0_20 oh0_21 oh0_23 oh0_24 oh0_25 oh0_26 oh0_27 oh0_28 oh0_29 oh0_30 oh0_31 oh0_32 oh0_33 oh0_34 oh0_35 oh0_36 oh0_37 : Value) (p1 : Int32) (p2 : Int32) (p3 : Int32) (v_now : Nat → Int32) (nv_now : Nat → Int32) (hM : f9_goIn N p1 p2 p3 v_now = some nv_now) (sz : Nat) : CTv l yX9_goIn wsX9_goIn r9_goIn [.ref h0, .int p1, .int p2, .int p3] D cy sz [(h0, .inr (9, [oh0_0, oh0_1, oh0_2, oh0_3, oh0_4, oh0_5, oh0_6, oh0_7, oh0_8, oh0_9, oh0_10, oh0_11, oh0_12, oh0_13, oh0_14, oh0_15, oh0_16, oh0_17, oh0_18, oh0_19, oh0_20, oh0_21, .ref h0_now, oh0_23, oh0_24, oh0_25, oh0_26, oh0_27, oh0_28, oh0_29, oh0_30, oh0_31, oh0_32, oh0_33, oh0_34, oh0_35, oh0_36, oh0_37])), (h0_now, .inl (cy 2, 60, .inl v_now))] [(h0, .inr (9, [oh0_0, oh0_1, oh0_2, oh0_3, oh0_4, oh0_5, oh0_6, oh0_7, oh0_8, oh0_9, oh0_10, oh0_11, oh0_12, oh0_13, oh0_14, oh0_15, oh0_16, oh0_17, oh0_18, oh0_19, oh0_20, oh0_21, .ref h0_now, oh0_23, oh0_24, oh0_25, oh0_26, oh0_27, oh0_28, oh0_29, oh0_30, oh0_31, oh0_32, oh0_33, oh0_34, oh0_35, oh0_36, oh0_37])), (h0_now, .inl (cy 2, 60, .inl nv_now))] := by
  unfold f9_goIn at hM
  refine ct_ov (cc := cX9_goIn) (maxL := 4)  (by decide +kernel) rfl (Nat.le_of_ble_eq_true rfl) (lv0 := [(0, .ref h0), (1, .int p1), (2, .int p2), (3, .int p3)]) rfl ?_
  intro p e s m args below meth c A Q ls hx hb hts hown hml hK hP hD hS hA hret hl
  have hown : s.vm.findClass RX9 = some m.cls := hown
  have k50 := hts (.fieldLink RX9 50 "CaveYearsModel" "now" "[I") (List.mem_of_getElem? (i := 1) (by decide +kernel))
  have iX9 := (fun w h => (List.mem_cons_of_mem _ (List.mem_append_right _ h)) : ∀ w ∈ wsX90, w ∈ wsX9_goIn)
  refine lv_aload_n hx hb dX9_goIn_0 rfl (lv_at hl 0 rfl) ?_
  refine va_get (D := D) (ci := 9) (v := .ref h0_now) (C := RX9) (T := TX9) (N := 38) hx hb hts iX9 hown hK hP 0 rfl rfl 22 (by decide) k50 (fun _ h9 => h9) rfl dX9_goIn_1 ?_
  refine lv_iconst (v := 1) hx hb dX9_goIn_4 (by decide) ?_
  refine lv_iload_n hx hb dX9_goIn_5 rfl (lv_at hl 1 rfl) ?_
  refine lv_iadd hx hb dX9_goIn_6 ?_
  refine lv_dup2_11 hx hb dX9_goIn_7 rfl rfl ?_
  obtain ⟨h8, hM⟩ := gi_some hM
  refine va_iald hx hb hK hP 1 2 rfl rfl h8 dX9_goIn_8 ?_
  refine lv_iload_n hx hb dX9_goIn_9 rfl (lv_at hl 2 rfl) ?_
  refine lv_iadd hx hb dX9_goIn_10 ?_
  obtain ⟨h11, hM⟩ := gi_some hM
  refine va_iast hx hb hK hP hD hS 1 2 rfl rfl h11 dX9_goIn_11 (fun H locs hP hD hS => ?_)
  have hP : va_P D vwCl [(h0, .inr (9, [oh0_0, oh0_1, oh0_2, oh0_3, oh0_4, oh0_5, oh0_6, oh0_7, oh0_8, oh0_9, oh0_10, oh0_11, oh0_12, oh0_13, oh0_14, oh0_15, oh0_16, oh0_17, oh0_18, oh0_19, oh0_20, oh0_21, .ref h0_now, oh0_23, oh0_24, oh0_25, oh0_26, oh0_27, oh0_28, oh0_29, oh0_30, oh0_31, oh0_32, oh0_33, oh0_34, oh0_35, oh0_36, oh0_37])), (h0_now, .inl (cy 2, 60, .inl (upd v_now ((1 : Int32) + p1).toNatClampNeg ((v_now ((1 : Int32) + p1).toNatClampNeg) + p2))))] H := hP
  have hD : va_D A [(h0, .inr (9, [oh0_0, oh0_1, oh0_2, oh0_3, oh0_4, oh0_5, oh0_6, oh0_7, oh0_8, oh0_9, oh0_10, oh0_11, oh0_12, oh0_13, oh0_14, oh0_15, oh0_16, oh0_17, oh0_18, oh0_19, oh0_20, oh0_21, .ref h0_now, oh0_23, oh0_24, oh0_25, oh0_26, oh0_27, oh0_28, oh0_29, oh0_30, oh0_31, oh0_32, oh0_33, oh0_34, oh0_35, oh0_36, oh0_37])), (h0_now, .inl (cy 2, 60, .inl (upd v_now ((1 : Int32) + p1).toNatClampNeg ((v_now ((1 : Int32) + p1).toNatClampNeg) + p2))))] := hD
  refine lv_aload_n hx hb dX9_goIn_12 rfl (lv_at hl 0 rfl) ?_
  refine va_get (D := D) (ci := 9) (v := .ref h0_now) (C := RX9) (T := TX9) (N := 38) hx hb hts iX9 hown hK hP 0 rfl rfl 22 (by decide) k50 (fun _ h9 => h9) rfl dX9_goIn_13 ?_
  refine lv_bipush (v := 13) hx hb dX9_goIn_16 (by decide) ?_
  refine lv_iload_n hx hb dX9_goIn_18 rfl (lv_at hl 1 rfl) ?_
  refine lv_iadd hx hb dX9_goIn_19 ?_
  refine lv_aload_n hx hb dX9_goIn_20 rfl (lv_at hl 0 rfl) ?_
  refine va_get (D := D) (ci := 9) (v := .ref h0_now) (C := RX9) (T := TX9) (N := 38) hx hb hts iX9 hown hK hP 0 rfl rfl 22 (by decide) k50 (fun _ h9 => h9) rfl dX9_goIn_21 ?_
  refine lv_iconst (v := 0) hx hb dX9_goIn_24 (by decide) ?_
  obtain ⟨h25, hM⟩ := gi_some hM
  refine va_iald hx hb hK hP 1 2 rfl rfl h25 dX9_goIn_25 ?_
  refine lv_iload_n hx hb dX9_goIn_26 rfl (lv_at hl 3 rfl) ?_
  refine lv_iadd hx hb dX9_goIn_27 ?_
  obtain ⟨h28, hM⟩ := gi_some hM
  refine va_iast hx hb hK hP hD hS 1 2 rfl rfl h28 dX9_goIn_28 (fun H locs hP hD hS => ?_)
  have hP : va_P D vwCl [(h0, .inr (9, [oh0_0, oh0_1, oh0_2, oh0_3, oh0_4, oh0_5, oh0_6, oh0_7, oh0_8, oh0_9, oh0_10, oh0_11, oh0_12, oh0_13, oh0_14, oh0_15, oh0_16, oh0_17, oh0_18, oh0_19, oh0_20, oh0_21, .ref h0_now, oh0_23, oh0_24, oh0_25, oh0_26, oh0_27, oh0_28, oh0_29, oh0_30, oh0_31, oh0_32, oh0_33, oh0_34, oh0_35, oh0_36, oh0_37])), (h0_now, .inl (cy 2, 60, .inl (upd (upd v_now ((1 : Int32) + p1).toNatClampNeg ((v_now ((1 : Int32) + p1).toNatClampNeg) + p2)) ((13 : Int32) + p1).toNatClampNeg (((upd v_now ((1 : Int32) + p1).toNatClampNeg ((v_now ((1 : Int32) + p1).toNatClampNeg) + p2)) (0 : Int32).toNatClampNeg) + p3))))] H := hP
  have hD : va_D A [(h0, .inr (9, [oh0_0, oh0_1, oh0_2, oh0_3, oh0_4, oh0_5, oh0_6, oh0_7, oh0_8, oh0_9, oh0_10, oh0_11, oh0_12, oh0_13, oh0_14, oh0_15, oh0_16, oh0_17, oh0_18, oh0_19, oh0_20, oh0_21, .ref h0_now, oh0_23, oh0_24, oh0_25, oh0_26, oh0_27, oh0_28, oh0_29, oh0_30, oh0_31, oh0_32, oh0_33, oh0_34, oh0_35, oh0_36, oh0_37])), (h0_now, .inl (cy 2, 60, .inl (upd (upd v_now ((1 : Int32) + p1).toNatClampNeg ((v_now ((1 : Int32) + p1).toNatClampNeg) + p2)) ((13 : Int32) + p1).toNatClampNeg (((upd v_now ((1 : Int32) + p1).toNatClampNeg ((v_now ((1 : Int32) + p1).toNatClampNeg) + p2)) (0 : Int32).toNatClampNeg) + p3))))] := hD
  obtain rfl := si1 hM
  exact hret _ _ _ _ dX9_goIn_29 hP hD hS

-- ===== X9_enter enter (I)I =====
abbrev r9_enter : Room := { frames := 4, cells := 0, slots := 0, locals := 85 }
def f9_enter (N : Nat) (p1 : Int32) (v_stayMany : Int32) (v_parts : Nat → Int32) (v_rates : Nat → Int32) (v_ways : Nat → Int32) (v_mouths : Nat → Int32) (v_persons : Nat → Int32) (v_now : Nat → Int32) (v_stay : Nat → Int32) : Option (Int32 × (Nat → Int32)) :=
  ob1 (f9_isPerson N p1 v_persons) fun r2 => if r2 = (0 : Int32) then (some ((-1000000001 : Int32), v_now)) else (ob1 (f9_isDown N p1 v_now) fun r13 => if r13 = (0 : Int32) then (if v_stayMany = (0 : Int32) then (some ((-1000000003 : Int32), v_now)) else (ob1 (f9_wrong N v_stayMany v_parts v_ways v_mouths v_stay) fun r27 => if r27 = (-1 : Int32) then (ob1 (f9_stayTime N v_stayMany v_rates v_stay) fun r44 => ob1 (f9_goIn N p1 v_stayMany r44 v_now) fun v_now_47 => gi ((13 : Int32) + p1) 60 (some ((v_now_47 ((13 : Int32) + p1).toNatClampNeg), v_now_47))) else (some ((-1000000003 : Int32), v_now)))) else (some ((-1000000003 : Int32), v_now)))
set_option maxHeartbeats 4000000 in
set_option maxRecDepth 100000 in
theorem c9_enter (l : Launch) (D : va_G) (cy : Nat → ClassId) (N : Nat) (h0 h0_parts h0_rates h0_ways h0_mouths h0_persons h0_now h0_stay : Nat) (oh0_0 oh0_1 oh0_2 oh0_6 oh0_9 oh0_10 oh0_11 oh0_12 oh0_13 oh0_14 oh0_15 oh0_16 oh0_17 oh0_18 oh0_19 oh0_20 oh0_21 oh0_23 oh0_26 oh0_27 oh0_28 oh0_29 oh0_30 oh0_31 oh0_32 oh0_33 oh0_34 oh0_35 oh0_36 oh0_37 : Value) (p1 : Int32) (v_stayMany : Int32) (v_parts : Nat → Int32) (v_rates : Nat → Int32) (v_ways : Nat → Int32) (v_mouths : Nat → Int32) (v_persons : Nat → Int32) (v_now : Nat → Int32) (v_stay : Nat → Int32) (r : Int32) (nv_now : Nat → Int32) (hM : f9_enter N p1 v_stayMany v_parts v_rates v_ways v_mouths v_persons v_now v_stay = some (r, nv_now)) (sz : Nat) : CTi l yX9_enter wsX9_enter r9_enter [.ref h0, .int p1] D cy sz [(h0, .inr (9, [oh0_0, oh0_1, oh0_2, .ref h0_parts, .ref h0_rates, .ref h0_ways, oh0_6, .ref h0_mouths, .ref h0_persons, oh0_9, oh0_10, oh0_11, oh0_12, oh0_13, oh0_14, oh0_15, oh0_16, oh0_17, oh0_18, oh0_19, oh0_20, oh0_21, .ref h0_now, oh0_23, .ref h0_stay, .int v_stayMany, oh0_26, oh0_27, oh0_28, oh0_29, oh0_30, oh0_31, oh0_32, oh0_33, oh0_34, oh0_35, oh0_36, oh0_37])), (h0_parts, .inl (cy 2, 2, .inl v_parts)), (h0_rates, .inl (cy 2, 14, .inl v_rates)), (h0_ways, .inl (cy 2, 14, .inl v_ways)), (h0_mouths, .inl (cy 2, 2, .inl v_mouths)), (h0_persons, .inl (cy 2, 2, .inl v_persons)), (h0_now, .inl (cy 2, 60, .inl v_now)), (h0_stay, .inl (cy 2, 40, .inl v_stay))] [(h0, .inr (9, [oh0_0, oh0_1, oh0_2, .ref h0_parts, .ref h0_rates, .ref h0_ways, oh0_6, .ref h0_mouths, .ref h0_persons, oh0_9, oh0_10, oh0_11, oh0_12, oh0_13, oh0_14, oh0_15, oh0_16, oh0_17, oh0_18, oh0_19, oh0_20, oh0_21, .ref h0_now, oh0_23, .ref h0_stay, .int v_stayMany, oh0_26, oh0_27, oh0_28, oh0_29, oh0_30, oh0_31, oh0_32, oh0_33, oh0_34, oh0_35, oh0_36, oh0_37])), (h0_parts, .inl (cy 2, 2, .inl v_parts)), (h0_rates, .inl (cy 2, 14, .inl v_rates)), (h0_ways, .inl (cy 2, 14, .inl v_ways)), (h0_mouths, .inl (cy 2, 2, .inl v_mouths)), (h0_persons, .inl (cy 2, 2, .inl v_persons)), (h0_now, .inl (cy 2, 60, .inl nv_now)), (h0_stay, .inl (cy 2, 40, .inl v_stay))] r := by
  unfold f9_enter at hM
  refine ct_oi (cc := cX9_enter) (maxL := 2) (ty := .int) (by decide +kernel) rfl (Nat.le_of_ble_eq_true rfl) (lv0 := [(0, .ref h0), (1, .int p1)]) rfl ?_
  intro p e s m args below meth c A Q ls hx hb hts hown hml hK hP hD hS hA hret hl
  have hown : s.vm.findClass RX9 = some m.cls := hown
  have k197 := hts (.constant RX9 197 (-1000000003)) (List.mem_of_getElem? (i := 3) (by decide +kernel))
  have k159 := hts (.fieldLink RX9 159 "CaveYearsModel" "stayMany" "I") (List.mem_of_getElem? (i := 2) (by decide +kernel))
  have iX9 := (fun w h => (List.mem_cons_of_mem _ (List.mem_append_right _ h)) : ∀ w ∈ wsX90, w ∈ wsX9_enter)
  have k50 := hts (.fieldLink RX9 50 "CaveYearsModel" "now" "[I") (List.mem_of_getElem? (i := 4) (by decide +kernel))
  have k180 := hts (.constant RX9 180 (-1000000001)) (List.mem_of_getElem? (i := 1) (by decide +kernel))
  refine lv_aload_n hx hb dX9_enter_0 rfl (lv_at hl 0 rfl) ?_
  refine lv_iload_n hx hb dX9_enter_1 rfl (lv_at hl 1 rfl) ?_
  obtain ⟨r2, hc2, hM⟩ := ob1_some hM
  refine cl_vi (As := [.int p1]) (rest := []) (ci := 9) (q0 := 0) (wr := [(h0_parts, .inl (cy 2, 2, .inl v_parts)), (h0_rates, .inl (cy 2, 14, .inl v_rates)), (h0_ways, .inl (cy 2, 14, .inl v_ways)), (h0_mouths, .inl (cy 2, 2, .inl v_mouths)), (h0_now, .inl (cy 2, 60, .inl v_now)), (h0_stay, .inl (cy 2, 40, .inl v_stay))]) (ws2 := [(h0, .inr (9, [oh0_0, oh0_1, oh0_2, .ref h0_parts, .ref h0_rates, .ref h0_ways, oh0_6, .ref h0_mouths, .ref h0_persons, oh0_9, oh0_10, oh0_11, oh0_12, oh0_13, oh0_14, oh0_15, oh0_16, oh0_17, oh0_18, oh0_19, oh0_20, oh0_21, .ref h0_now, oh0_23, .ref h0_stay, .int v_stayMany, oh0_26, oh0_27, oh0_28, oh0_29, oh0_30, oh0_31, oh0_32, oh0_33, oh0_34, oh0_35, oh0_36, oh0_37])), (h0_parts, .inl (cy 2, 2, .inl v_parts)), (h0_rates, .inl (cy 2, 14, .inl v_rates)), (h0_ways, .inl (cy 2, 14, .inl v_ways)), (h0_mouths, .inl (cy 2, 2, .inl v_mouths)), (h0_persons, .inl (cy 2, 2, .inl v_persons)), (h0_now, .inl (cy 2, 60, .inl v_now)), (h0_stay, .inl (cy 2, 40, .inl v_stay))]) (isC := [0, 5]) (isR := [1, 2, 3, 4, 6, 7]) (pm := [6, 0, 1, 2, 3, 7, 4, 5]) hx hb hml hown hts (c9_isPerson l D cy N h0 h0_persons oh0_0 oh0_1 oh0_2 (.ref h0_parts) (.ref h0_rates) (.ref h0_ways) oh0_6 (.ref h0_mouths) oh0_9 oh0_10 oh0_11 oh0_12 oh0_13 oh0_14 oh0_15 oh0_16 oh0_17 oh0_18 oh0_19 oh0_20 oh0_21 (.ref h0_now) oh0_23 (.ref h0_stay) (.int v_stayMany) oh0_26 oh0_27 oh0_28 oh0_29 oh0_30 oh0_31 oh0_32 oh0_33 oh0_34 oh0_35 oh0_36 oh0_37 p1 v_persons r2 hc2) (cwV 1 hts gX9_enter_X9_isPerson rfl rfl rfl (by decide +kernel) ⟨Nat.le_of_ble_eq_true rfl, Nat.le_of_ble_eq_true rfl⟩) hK hP hD hS hA rfl rfl rfl rfl rfl (by decide) rfl rfl rfl hl.1 (Nat.le_of_ble_eq_true rfl) dX9_enter_2 ⟨Nat.zero_le _, Nat.zero_le _⟩ rfl rfl (fun H locs hP hD hS => ?_)
  refine lv_if_ne (tgt := 11) hx hb dX9_enter_5 (by decide) (fun c5 => ?_) (fun c5 => ?_)
  · have hM := g_neg c5 hM
    refine lv_aload_n hx hb dX9_enter_11 rfl (lv_at hl 0 rfl) ?_
    refine lv_iload_n hx hb dX9_enter_12 rfl (lv_at hl 1 rfl) ?_
    obtain ⟨r13, hc13, hM⟩ := ob1_some hM
    refine cl_vi (As := [.int p1]) (rest := []) (ci := 9) (q0 := 0) (wr := [(h0_parts, .inl (cy 2, 2, .inl v_parts)), (h0_rates, .inl (cy 2, 14, .inl v_rates)), (h0_ways, .inl (cy 2, 14, .inl v_ways)), (h0_mouths, .inl (cy 2, 2, .inl v_mouths)), (h0_persons, .inl (cy 2, 2, .inl v_persons)), (h0_stay, .inl (cy 2, 40, .inl v_stay))]) (ws2 := [(h0, .inr (9, [oh0_0, oh0_1, oh0_2, .ref h0_parts, .ref h0_rates, .ref h0_ways, oh0_6, .ref h0_mouths, .ref h0_persons, oh0_9, oh0_10, oh0_11, oh0_12, oh0_13, oh0_14, oh0_15, oh0_16, oh0_17, oh0_18, oh0_19, oh0_20, oh0_21, .ref h0_now, oh0_23, .ref h0_stay, .int v_stayMany, oh0_26, oh0_27, oh0_28, oh0_29, oh0_30, oh0_31, oh0_32, oh0_33, oh0_34, oh0_35, oh0_36, oh0_37])), (h0_parts, .inl (cy 2, 2, .inl v_parts)), (h0_rates, .inl (cy 2, 14, .inl v_rates)), (h0_ways, .inl (cy 2, 14, .inl v_ways)), (h0_mouths, .inl (cy 2, 2, .inl v_mouths)), (h0_persons, .inl (cy 2, 2, .inl v_persons)), (h0_now, .inl (cy 2, 60, .inl v_now)), (h0_stay, .inl (cy 2, 40, .inl v_stay))]) (isC := [0, 6]) (isR := [1, 2, 3, 4, 5, 7]) (pm := [6, 0, 1, 2, 3, 4, 7, 5]) hx hb hml hown hts (c9_isDown l D cy N h0 h0_now oh0_0 oh0_1 oh0_2 (.ref h0_parts) (.ref h0_rates) (.ref h0_ways) oh0_6 (.ref h0_mouths) (.ref h0_persons) oh0_9 oh0_10 oh0_11 oh0_12 oh0_13 oh0_14 oh0_15 oh0_16 oh0_17 oh0_18 oh0_19 oh0_20 oh0_21 oh0_23 (.ref h0_stay) (.int v_stayMany) oh0_26 oh0_27 oh0_28 oh0_29 oh0_30 oh0_31 oh0_32 oh0_33 oh0_34 oh0_35 oh0_36 oh0_37 p1 v_now r13 hc13) (cwV 1 hts gX9_enter_X9_isDown rfl rfl rfl (by decide +kernel) ⟨Nat.le_of_ble_eq_true rfl, Nat.le_of_ble_eq_true rfl⟩) hK hP hD hS hA rfl rfl rfl rfl rfl (by decide) rfl rfl rfl hl.1 (Nat.le_of_ble_eq_true rfl) dX9_enter_13 ⟨Nat.zero_le _, Nat.zero_le _⟩ rfl rfl (fun H locs hP hD hS => ?_)
    refine lv_if_ne (tgt := 34) hx hb dX9_enter_16 (by decide) (fun c16 => ?_) (fun c16 => ?_)
    · have hM := g_neg c16 hM
      refine lv_ldc (v := -1000000003) hx hb hown k197 dX9_enter_34 ?_
      obtain ⟨rfl, rfl⟩ := si2 hM
      exact hret _ _ _ _ _ dX9_enter_36 rfl rfl hP hD hS
    · have hM := g_pos c16 hM
      refine lv_aload_n hx hb dX9_enter_19 rfl (lv_at hl 0 rfl) ?_
      refine va_get (D := D) (ci := 9) (v := .int v_stayMany) (C := RX9) (T := TX9) (N := 38) hx hb hts iX9 hown hK hP 0 rfl rfl 25 (by decide) k159 (fun _ h9 => h9) rfl dX9_enter_20 ?_
      refine lv_if_eq (tgt := 34) hx hb dX9_enter_23 (by decide) (fun c23 => ?_) (fun c23 => ?_)
      · have hM := g_pos c23 hM
        refine lv_ldc (v := -1000000003) hx hb hown k197 dX9_enter_34 ?_
        obtain ⟨rfl, rfl⟩ := si2 hM
        exact hret _ _ _ _ _ dX9_enter_36 rfl rfl hP hD hS
      · have hM := g_neg c23 hM
        refine lv_aload_n hx hb dX9_enter_26 rfl (lv_at hl 0 rfl) ?_
        obtain ⟨r27, hc27, hM⟩ := ob1_some hM
        refine cl_vi (As := []) (rest := []) (ci := 9) (q0 := 0) (wr := [(h0_rates, .inl (cy 2, 14, .inl v_rates)), (h0_persons, .inl (cy 2, 2, .inl v_persons)), (h0_now, .inl (cy 2, 60, .inl v_now))]) (ws2 := [(h0, .inr (9, [oh0_0, oh0_1, oh0_2, .ref h0_parts, .ref h0_rates, .ref h0_ways, oh0_6, .ref h0_mouths, .ref h0_persons, oh0_9, oh0_10, oh0_11, oh0_12, oh0_13, oh0_14, oh0_15, oh0_16, oh0_17, oh0_18, oh0_19, oh0_20, oh0_21, .ref h0_now, oh0_23, .ref h0_stay, .int v_stayMany, oh0_26, oh0_27, oh0_28, oh0_29, oh0_30, oh0_31, oh0_32, oh0_33, oh0_34, oh0_35, oh0_36, oh0_37])), (h0_parts, .inl (cy 2, 2, .inl v_parts)), (h0_rates, .inl (cy 2, 14, .inl v_rates)), (h0_ways, .inl (cy 2, 14, .inl v_ways)), (h0_mouths, .inl (cy 2, 2, .inl v_mouths)), (h0_persons, .inl (cy 2, 2, .inl v_persons)), (h0_now, .inl (cy 2, 60, .inl v_now)), (h0_stay, .inl (cy 2, 40, .inl v_stay))]) (isC := [0, 1, 3, 4, 7]) (isR := [2, 5, 6]) (pm := [3, 4, 0, 5, 6, 1, 2, 7]) hx hb hml hown hts (c9_wrong l D cy N h0 h0_parts h0_ways h0_mouths h0_stay oh0_0 oh0_1 oh0_2 (.ref h0_rates) oh0_6 (.ref h0_persons) oh0_9 oh0_10 oh0_11 oh0_12 oh0_13 oh0_14 oh0_15 oh0_16 oh0_17 oh0_18 oh0_19 oh0_20 oh0_21 (.ref h0_now) oh0_23 oh0_26 oh0_27 oh0_28 oh0_29 oh0_30 oh0_31 oh0_32 oh0_33 oh0_34 oh0_35 oh0_36 oh0_37 v_stayMany v_parts v_ways v_mouths v_stay r27 hc27) (cwV 0 hts gX9_enter_X9_wrong rfl rfl rfl (by decide +kernel) ⟨Nat.le_of_ble_eq_true rfl, Nat.le_of_ble_eq_true rfl⟩) hK hP hD hS hA rfl rfl rfl rfl rfl (by decide) rfl rfl rfl hl.1 (Nat.le_of_ble_eq_true rfl) dX9_enter_27 ⟨Nat.zero_le _, Nat.zero_le _⟩ rfl rfl (fun H locs hP hD hS => ?_)
        refine lv_iconst (v := -1) hx hb dX9_enter_30 (by decide) ?_
        refine lv_icmp_eq (tgt := 37) hx hb dX9_enter_31 (by decide) (fun c31 => ?_) (fun c31 => ?_)
        · have hM := g_pos c31 hM
          refine lv_aload_n hx hb dX9_enter_37 rfl (lv_at hl 0 rfl) ?_
          refine lv_iload_n hx hb dX9_enter_38 rfl (lv_at hl 1 rfl) ?_
          refine lv_aload_n hx hb dX9_enter_39 rfl (lv_at hl 0 rfl) ?_
          refine va_get (D := D) (ci := 9) (v := .int v_stayMany) (C := RX9) (T := TX9) (N := 38) hx hb hts iX9 hown hK hP 0 rfl rfl 25 (by decide) k159 (fun _ h9 => h9) rfl dX9_enter_40 ?_
          refine lv_aload_n hx hb dX9_enter_43 rfl (lv_at hl 0 rfl) ?_
          obtain ⟨r44, hc44, hM⟩ := ob1_some hM
          refine cl_vi (As := []) (rest := [.int v_stayMany, .int p1, .ref h0]) (ci := 9) (q0 := 0) (wr := [(h0_parts, .inl (cy 2, 2, .inl v_parts)), (h0_ways, .inl (cy 2, 14, .inl v_ways)), (h0_mouths, .inl (cy 2, 2, .inl v_mouths)), (h0_persons, .inl (cy 2, 2, .inl v_persons)), (h0_now, .inl (cy 2, 60, .inl v_now))]) (ws2 := [(h0, .inr (9, [oh0_0, oh0_1, oh0_2, .ref h0_parts, .ref h0_rates, .ref h0_ways, oh0_6, .ref h0_mouths, .ref h0_persons, oh0_9, oh0_10, oh0_11, oh0_12, oh0_13, oh0_14, oh0_15, oh0_16, oh0_17, oh0_18, oh0_19, oh0_20, oh0_21, .ref h0_now, oh0_23, .ref h0_stay, .int v_stayMany, oh0_26, oh0_27, oh0_28, oh0_29, oh0_30, oh0_31, oh0_32, oh0_33, oh0_34, oh0_35, oh0_36, oh0_37])), (h0_parts, .inl (cy 2, 2, .inl v_parts)), (h0_rates, .inl (cy 2, 14, .inl v_rates)), (h0_ways, .inl (cy 2, 14, .inl v_ways)), (h0_mouths, .inl (cy 2, 2, .inl v_mouths)), (h0_persons, .inl (cy 2, 2, .inl v_persons)), (h0_now, .inl (cy 2, 60, .inl v_now)), (h0_stay, .inl (cy 2, 40, .inl v_stay))]) (isC := [0, 2, 7]) (isR := [1, 3, 4, 5, 6]) (pm := [5, 0, 6, 1, 2, 3, 4, 7]) hx hb hml hown hts (c9_stayTime l D cy N h0 h0_rates h0_stay oh0_0 oh0_1 oh0_2 (.ref h0_parts) (.ref h0_ways) oh0_6 (.ref h0_mouths) (.ref h0_persons) oh0_9 oh0_10 oh0_11 oh0_12 oh0_13 oh0_14 oh0_15 oh0_16 oh0_17 oh0_18 oh0_19 oh0_20 oh0_21 (.ref h0_now) oh0_23 oh0_26 oh0_27 oh0_28 oh0_29 oh0_30 oh0_31 oh0_32 oh0_33 oh0_34 oh0_35 oh0_36 oh0_37 v_stayMany v_rates v_stay r44 hc44) (cwV 0 hts gX9_enter_X9_stayTime rfl rfl rfl (by decide +kernel) ⟨Nat.le_of_ble_eq_true rfl, Nat.le_of_ble_eq_true rfl⟩) hK hP hD hS hA rfl rfl rfl rfl rfl (by decide) rfl rfl rfl hl.1 (Nat.le_of_ble_eq_true rfl) dX9_enter_44 ⟨Nat.zero_le _, Nat.zero_le _⟩ rfl rfl (fun H locs hP hD hS => ?_)
          obtain ⟨v_now_47, hc47, hM⟩ := ob1_some hM
          refine cl_vv (As := [.int p1, .int v_stayMany, .int r44]) (rest := []) (ci := 9) (q0 := 0) (wr := [(h0_parts, .inl (cy 2, 2, .inl v_parts)), (h0_rates, .inl (cy 2, 14, .inl v_rates)), (h0_ways, .inl (cy 2, 14, .inl v_ways)), (h0_mouths, .inl (cy 2, 2, .inl v_mouths)), (h0_persons, .inl (cy 2, 2, .inl v_persons)), (h0_stay, .inl (cy 2, 40, .inl v_stay))]) (ws2 := [(h0, .inr (9, [oh0_0, oh0_1, oh0_2, .ref h0_parts, .ref h0_rates, .ref h0_ways, oh0_6, .ref h0_mouths, .ref h0_persons, oh0_9, oh0_10, oh0_11, oh0_12, oh0_13, oh0_14, oh0_15, oh0_16, oh0_17, oh0_18, oh0_19, oh0_20, oh0_21, .ref h0_now, oh0_23, .ref h0_stay, .int v_stayMany, oh0_26, oh0_27, oh0_28, oh0_29, oh0_30, oh0_31, oh0_32, oh0_33, oh0_34, oh0_35, oh0_36, oh0_37])), (h0_parts, .inl (cy 2, 2, .inl v_parts)), (h0_rates, .inl (cy 2, 14, .inl v_rates)), (h0_ways, .inl (cy 2, 14, .inl v_ways)), (h0_mouths, .inl (cy 2, 2, .inl v_mouths)), (h0_persons, .inl (cy 2, 2, .inl v_persons)), (h0_now, .inl (cy 2, 60, .inl v_now_47)), (h0_stay, .inl (cy 2, 40, .inl v_stay))]) (isC := [0, 6]) (isR := [1, 2, 3, 4, 5, 7]) (pm := [6, 0, 1, 2, 3, 4, 7, 5]) hx hb hml hown hts (c9_goIn l D cy N h0 h0_now oh0_0 oh0_1 oh0_2 (.ref h0_parts) (.ref h0_rates) (.ref h0_ways) oh0_6 (.ref h0_mouths) (.ref h0_persons) oh0_9 oh0_10 oh0_11 oh0_12 oh0_13 oh0_14 oh0_15 oh0_16 oh0_17 oh0_18 oh0_19 oh0_20 oh0_21 oh0_23 (.ref h0_stay) (.int v_stayMany) oh0_26 oh0_27 oh0_28 oh0_29 oh0_30 oh0_31 oh0_32 oh0_33 oh0_34 oh0_35 oh0_36 oh0_37 p1 v_stayMany r44 v_now v_now_47 hc47) (cwV 3 hts gX9_enter_X9_goIn rfl rfl rfl (by decide +kernel) ⟨Nat.le_of_ble_eq_true rfl, Nat.le_of_ble_eq_true rfl⟩) hK hP hD hS hA rfl rfl rfl rfl rfl (by decide) rfl rfl rfl hl.1 (Nat.le_of_ble_eq_true rfl) dX9_enter_47 ⟨Nat.zero_le _, Nat.zero_le _⟩ rfl rfl (fun H locs hP hD hS => ?_)
          refine lv_aload_n hx hb dX9_enter_50 rfl (lv_at hl 0 rfl) ?_
          refine va_get (D := D) (ci := 9) (v := .ref h0_now) (C := RX9) (T := TX9) (N := 38) hx hb hts iX9 hown hK hP 0 rfl rfl 22 (by decide) k50 (fun _ h9 => h9) rfl dX9_enter_51 ?_
          refine lv_bipush (v := 13) hx hb dX9_enter_54 (by decide) ?_
          refine lv_iload_n hx hb dX9_enter_56 rfl (lv_at hl 1 rfl) ?_
          refine lv_iadd hx hb dX9_enter_57 ?_
          obtain ⟨h58, hM⟩ := gi_some hM
          refine va_iald hx hb hK hP 6 2 rfl rfl h58 dX9_enter_58 ?_
          obtain ⟨rfl, rfl⟩ := si2 hM
          exact hret _ _ _ _ _ dX9_enter_59 rfl rfl hP hD hS
        · have hM := g_neg c31 hM
          refine lv_ldc (v := -1000000003) hx hb hown k197 dX9_enter_34 ?_
          obtain ⟨rfl, rfl⟩ := si2 hM
          exact hret _ _ _ _ _ dX9_enter_36 rfl rfl hP hD hS
  · have hM := g_pos c5 hM
    refine lv_ldc (v := -1000000001) hx hb hown k180 dX9_enter_8 ?_
    obtain ⟨rfl, rfl⟩ := si2 hM
    exact hret _ _ _ _ _ dX9_enter_10 rfl rfl hP hD hS

-- ===== X9_grown grown (I)I =====
abbrev r9_grown : Room := { frames := 0, cells := 0, slots := 0, locals := 0 }
def f9_grown (N : Nat) (p1 : Int32) (v_interest : Nat → Int32) : Option Int32 :=
  gi (0 : Int32) 2 (if (lg_cmp ((p1.toInt64) + (((p1.toInt64) * ((v_interest (0 : Int32).toNatClampNeg).toInt64)) / (100 : Int64))) (999999999 : Int64)) ≤ (0 : Int32) then (some ((p1.toInt64) + (((p1.toInt64) * ((v_interest (0 : Int32).toNatClampNeg).toInt64)) / (100 : Int64))).toInt32) else (some (999999999 : Int32)))
set_option maxHeartbeats 4000000 in
set_option maxRecDepth 100000 in
theorem c9_grown (l : Launch) (D : va_G) (cy : Nat → ClassId) (N : Nat) (h0 h0_interest : Nat) (oh0_0 oh0_1 oh0_2 oh0_3 oh0_4 oh0_5 oh0_6 oh0_7 oh0_8 oh0_9 oh0_10 oh0_12 oh0_13 oh0_14 oh0_15 oh0_16 oh0_17 oh0_18 oh0_19 oh0_20 oh0_21 oh0_22 oh0_23 oh0_24 oh0_25 oh0_26 oh0_27 oh0_28 oh0_29 oh0_30 oh0_31 oh0_32 oh0_33 oh0_34 oh0_35 oh0_36 oh0_37 : Value) (p1 : Int32) (v_interest : Nat → Int32) (r : Int32) (hM : f9_grown N p1 v_interest = some r) (sz : Nat) : CTi l yX9_grown wsX9_grown r9_grown [.ref h0, .int p1] D cy sz [(h0, .inr (9, [oh0_0, oh0_1, oh0_2, oh0_3, oh0_4, oh0_5, oh0_6, oh0_7, oh0_8, oh0_9, oh0_10, .ref h0_interest, oh0_12, oh0_13, oh0_14, oh0_15, oh0_16, oh0_17, oh0_18, oh0_19, oh0_20, oh0_21, oh0_22, oh0_23, oh0_24, oh0_25, oh0_26, oh0_27, oh0_28, oh0_29, oh0_30, oh0_31, oh0_32, oh0_33, oh0_34, oh0_35, oh0_36, oh0_37])), (h0_interest, .inl (cy 2, 2, .inl v_interest))] [(h0, .inr (9, [oh0_0, oh0_1, oh0_2, oh0_3, oh0_4, oh0_5, oh0_6, oh0_7, oh0_8, oh0_9, oh0_10, .ref h0_interest, oh0_12, oh0_13, oh0_14, oh0_15, oh0_16, oh0_17, oh0_18, oh0_19, oh0_20, oh0_21, oh0_22, oh0_23, oh0_24, oh0_25, oh0_26, oh0_27, oh0_28, oh0_29, oh0_30, oh0_31, oh0_32, oh0_33, oh0_34, oh0_35, oh0_36, oh0_37])), (h0_interest, .inl (cy 2, 2, .inl v_interest))] r := by
  unfold f9_grown at hM
  refine ct_oi (cc := cX9_grown) (maxL := 4) (ty := .int) (by decide +kernel) rfl (Nat.le_of_ble_eq_true rfl) (lv0 := [(0, .ref h0), (1, .int p1)]) rfl ?_
  intro p e s m args below meth c A Q ls hx hb hts hown hml hK hP hD hS hA hret hl
  have hown : s.vm.findClass RX9 = some m.cls := hown
  have k38 := hts (.fieldLink RX9 38 "CaveYearsModel" "interest" "[I") (List.mem_of_getElem? (i := 1) (by decide +kernel))
  have iX9 := (fun w h => (List.mem_cons_of_mem _ (List.mem_append_right _ h)) : ∀ w ∈ wsX90, w ∈ wsX9_grown)
  have k202 := hts (.constantLong RX9 202 (100)) (List.mem_of_getElem? (i := 2) (by decide +kernel))
  have k204 := hts (.constantLong RX9 204 (999999999)) (List.mem_of_getElem? (i := 3) (by decide +kernel))
  have k206 := hts (.constant RX9 206 (999999999)) (List.mem_of_getElem? (i := 4) (by decide +kernel))
  refine lv_iload_n hx hb dX9_grown_0 rfl (lv_at hl 1 rfl) ?_
  refine lv_i2l (v := p1.toInt64) hx hb dX9_grown_1 rfl ?_
  refine lv_iload_n hx hb dX9_grown_2 rfl (lv_at hl 1 rfl) ?_
  refine lv_i2l (v := p1.toInt64) hx hb dX9_grown_3 rfl ?_
  refine lv_aload_n hx hb dX9_grown_4 rfl (lv_at hl 0 rfl) ?_
  refine va_get (D := D) (ci := 9) (v := .ref h0_interest) (C := RX9) (T := TX9) (N := 38) hx hb hts iX9 hown hK hP 0 rfl rfl 11 (by decide) k38 (fun _ h9 => h9) rfl dX9_grown_5 ?_
  refine lv_iconst (v := 0) hx hb dX9_grown_8 (by decide) ?_
  obtain ⟨h9, hM⟩ := gi_some hM
  refine va_iald hx hb hK hP 1 2 rfl rfl h9 dX9_grown_9 ?_
  refine lv_i2l (v := (v_interest (0 : Int32).toNatClampNeg).toInt64) hx hb dX9_grown_10 rfl ?_
  refine lv_lmul hx hb dX9_grown_11 ?_
  refine lv_ldc2 (v := 100) hx hb hown k202 dX9_grown_12 ?_
  refine lv_ldiv hx hb dX9_grown_15 (by decide) ?_
  refine lv_ladd hx hb dX9_grown_16 ?_
  refine lv_lstore_n (lv' := [(2, .long ((p1.toInt64) + (((p1.toInt64) * ((v_interest (0 : Int32).toNatClampNeg).toInt64)) / (100 : Int64)))), (0, .ref h0), (1, .int p1)]) hx hb dX9_grown_17 rfl hl (by decide) rfl (fun ls hl => ?_)
  refine lv_lload_n hx hb dX9_grown_18 rfl (lv_at hl 0 rfl) ?_
  refine lv_ldc2 (v := 999999999) hx hb hown k204 dX9_grown_19 ?_
  refine W.lcmp hx hb dX9_grown_22 ?_
  refine lv_if_le (tgt := 31) hx hb dX9_grown_23 (by decide) (fun c23 => ?_) (fun c23 => ?_)
  · have hM := g_pos c23 hM
    refine lv_lload_n hx hb dX9_grown_31 rfl (lv_at hl 0 rfl) ?_
    refine lv_l2i (v := ((p1.toInt64) + (((p1.toInt64) * ((v_interest (0 : Int32).toNatClampNeg).toInt64)) / (100 : Int64))).toInt32) hx hb dX9_grown_32 rfl ?_
    obtain rfl := si1 hM
    exact hret _ _ _ _ _ dX9_grown_33 rfl rfl hP hD hS
  · have hM := g_neg c23 hM
    refine lv_ldc (v := 999999999) hx hb hown k206 dX9_grown_26 ?_
    refine lv_goto (tgt := 33) hx hb dX9_grown_28 (by decide) ?_
    obtain rfl := si1 hM
    exact hret _ _ _ _ _ dX9_grown_33 rfl rfl hP hD hS
