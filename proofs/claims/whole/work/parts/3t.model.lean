-- ===== X9_fits fits ()I =====
abbrev r9_fits : Room := { frames := 0, cells := 0, slots := 0, locals := 0 }
def f9_fits_L19 (N : Nat) (v_tries : Int32) (v_rates : Nat → Int32) (v_tryDays : Nat → Int32) (v_tryTicks : Nat → Int32) (x2_4 : Int32) : Nat → Int32 → Int32 → Option Int32
  | 0, _, _ => none
  | n + 1, x3_19, x4_19 => if v_tries ≤ x4_19 then (some x3_19) else (if x3_19 = (0 : Int32) then ((f9_fits_L19 N v_tries v_rates v_tryDays v_tryTicks x2_4 n) (0 : Int32) (x4_19 + (1 : Int32))) else (gi x4_19 10 (gi x2_4 14 (gi x4_19 10 (if ((v_tryDays x4_19.toNatClampNeg) * (v_rates x2_4.toNatClampNeg)) = (v_tryTicks x4_19.toNatClampNeg) then ((f9_fits_L19 N v_tries v_rates v_tryDays v_tryTicks x2_4 n) (1 : Int32) (x4_19 + (1 : Int32))) else ((f9_fits_L19 N v_tries v_rates v_tryDays v_tryTicks x2_4 n) (0 : Int32) (x4_19 + (1 : Int32))))))))
def f9_fits_L4 (N : Nat) (v_tries : Int32) (v_parts : Nat → Int32) (v_rates : Nat → Int32) (v_tryDays : Nat → Int32) (v_tryTicks : Nat → Int32) : Nat → Int32 → Int32 → Option Int32
  | 0, _, _ => none
  | n + 1, x1_4, x2_4 => gi (0 : Int32) 2 (if (v_parts (0 : Int32).toNatClampNeg) ≤ x2_4 then (some x1_4) else (ob1 (f9_fits_L19 N v_tries v_rates v_tryDays v_tryTicks x2_4 N (1 : Int32) (0 : Int32)) fun e3_19 => if e3_19 = (0 : Int32) then ((f9_fits_L4 N v_tries v_parts v_rates v_tryDays v_tryTicks n) (x1_4 ||| (0 : Int32)) (x2_4 + (1 : Int32))) else ((f9_fits_L4 N v_tries v_parts v_rates v_tryDays v_tryTicks n) (x1_4 ||| ((1 : Int32) <<< (x2_4 &&& 31))) (x2_4 + (1 : Int32)))))
def f9_fits (N : Nat) (v_tries : Int32) (v_parts : Nat → Int32) (v_rates : Nat → Int32) (v_tryDays : Nat → Int32) (v_tryTicks : Nat → Int32) : Option Int32 :=
  ob1 (f9_fits_L4 N v_tries v_parts v_rates v_tryDays v_tryTicks N (0 : Int32) (0 : Int32)) fun e1_4 => some e1_4
set_option maxHeartbeats 4000000 in
set_option maxRecDepth 100000 in
theorem c9_fits (l : Launch) (D : va_G) (cy : Nat → ClassId) (N : Nat) (h0 h0_parts h0_rates h0_tryDays h0_tryTicks : Nat) (oh0_0 oh0_1 oh0_2 oh0_5 oh0_6 oh0_7 oh0_8 oh0_9 oh0_10 oh0_11 oh0_12 oh0_13 oh0_14 oh0_15 oh0_16 oh0_17 oh0_18 oh0_19 oh0_20 oh0_21 oh0_22 oh0_23 oh0_24 oh0_25 oh0_26 oh0_27 oh0_28 oh0_29 oh0_33 oh0_34 oh0_35 oh0_36 oh0_37 : Value) (v_tries : Int32) (v_parts : Nat → Int32) (v_rates : Nat → Int32) (v_tryDays : Nat → Int32) (v_tryTicks : Nat → Int32) (r : Int32) (hM : f9_fits N v_tries v_parts v_rates v_tryDays v_tryTicks = some r) (sz : Nat) : CTi l yX9_fits wsX9_fits r9_fits [.ref h0] D cy sz [(h0, .inr (9, [oh0_0, oh0_1, oh0_2, .ref h0_parts, .ref h0_rates, oh0_5, oh0_6, oh0_7, oh0_8, oh0_9, oh0_10, oh0_11, oh0_12, oh0_13, oh0_14, oh0_15, oh0_16, oh0_17, oh0_18, oh0_19, oh0_20, oh0_21, oh0_22, oh0_23, oh0_24, oh0_25, oh0_26, oh0_27, oh0_28, oh0_29, .ref h0_tryDays, .ref h0_tryTicks, .int v_tries, oh0_33, oh0_34, oh0_35, oh0_36, oh0_37])), (h0_parts, .inl (cy 2, 2, .inl v_parts)), (h0_rates, .inl (cy 2, 14, .inl v_rates)), (h0_tryDays, .inl (cy 2, 10, .inl v_tryDays)), (h0_tryTicks, .inl (cy 2, 10, .inl v_tryTicks))] [(h0, .inr (9, [oh0_0, oh0_1, oh0_2, .ref h0_parts, .ref h0_rates, oh0_5, oh0_6, oh0_7, oh0_8, oh0_9, oh0_10, oh0_11, oh0_12, oh0_13, oh0_14, oh0_15, oh0_16, oh0_17, oh0_18, oh0_19, oh0_20, oh0_21, oh0_22, oh0_23, oh0_24, oh0_25, oh0_26, oh0_27, oh0_28, oh0_29, .ref h0_tryDays, .ref h0_tryTicks, .int v_tries, oh0_33, oh0_34, oh0_35, oh0_36, oh0_37])), (h0_parts, .inl (cy 2, 2, .inl v_parts)), (h0_rates, .inl (cy 2, 14, .inl v_rates)), (h0_tryDays, .inl (cy 2, 10, .inl v_tryDays)), (h0_tryTicks, .inl (cy 2, 10, .inl v_tryTicks))] r := by
  unfold f9_fits at hM
  refine ct_oi (cc := cX9_fits) (maxL := 5) (ty := .int) (by decide +kernel) rfl (Nat.le_of_ble_eq_true rfl) (lv0 := [(0, .ref h0)]) rfl ?_
  intro p e s m args below meth c A Q ls hx hb hts hown hml hK hP hD hS hA hret hl
  have hown : s.vm.findClass RX9 = some m.cls := hown
  have k13 := hts (.fieldLink RX9 13 "CaveYearsModel" "parts" "[I") (List.mem_of_getElem? (i := 1) (by decide +kernel))
  have iX9 := (fun w h => (List.mem_cons_of_mem _ (List.mem_append_right _ h)) : ∀ w ∈ wsX90, w ∈ wsX9_fits)
  have k162 := hts (.fieldLink RX9 162 "CaveYearsModel" "tries" "I") (List.mem_of_getElem? (i := 2) (by decide +kernel))
  have k73 := hts (.fieldLink RX9 73 "CaveYearsModel" "tryDays" "[I") (List.mem_of_getElem? (i := 3) (by decide +kernel))
  have k17 := hts (.fieldLink RX9 17 "CaveYearsModel" "rates" "[I") (List.mem_of_getElem? (i := 4) (by decide +kernel))
  have k76 := hts (.fieldLink RX9 76 "CaveYearsModel" "tryTicks" "[I") (List.mem_of_getElem? (i := 5) (by decide +kernel))
  refine lv_iconst (v := 0) hx hb dX9_fits_0 (by decide) ?_
  refine lv_istore_n (lv' := [(1, .int (0 : Int32)), (0, .ref h0)]) hx hb dX9_fits_1 rfl hl (by decide) rfl (fun ls hl => ?_)
  refine lv_iconst (v := 0) hx hb dX9_fits_2 (by decide) ?_
  refine lv_istore_n (lv' := [(2, .int (0 : Int32)), (1, .int (0 : Int32)), (0, .ref h0)]) hx hb dX9_fits_3 rfl hl (by decide) rfl (fun ls hl => ?_)
  have L4 : ∀ (n : Nat) (x1_4 : Int32) (x2_4 : Int32) (e1_4 : Int32) (H : Heap) (locs : List Loc) (ls : Array Slot), f9_fits_L4 N v_tries v_parts v_rates v_tryDays v_tryTicks n x1_4 x2_4 = some e1_4 → va_P D vwCl [(h0, .inr (9, [oh0_0, oh0_1, oh0_2, .ref h0_parts, .ref h0_rates, oh0_5, oh0_6, oh0_7, oh0_8, oh0_9, oh0_10, oh0_11, oh0_12, oh0_13, oh0_14, oh0_15, oh0_16, oh0_17, oh0_18, oh0_19, oh0_20, oh0_21, oh0_22, oh0_23, oh0_24, oh0_25, oh0_26, oh0_27, oh0_28, oh0_29, .ref h0_tryDays, .ref h0_tryTicks, .int v_tries, oh0_33, oh0_34, oh0_35, oh0_36, oh0_37])), (h0_parts, .inl (cy 2, 2, .inl v_parts)), (h0_rates, .inl (cy 2, 14, .inl v_rates)), (h0_tryDays, .inl (cy 2, 10, .inl v_tryDays)), (h0_tryTicks, .inl (cy 2, 10, .inl v_tryTicks))] H → va_D A [(h0, .inr (9, [oh0_0, oh0_1, oh0_2, .ref h0_parts, .ref h0_rates, oh0_5, oh0_6, oh0_7, oh0_8, oh0_9, oh0_10, oh0_11, oh0_12, oh0_13, oh0_14, oh0_15, oh0_16, oh0_17, oh0_18, oh0_19, oh0_20, oh0_21, oh0_22, oh0_23, oh0_24, oh0_25, oh0_26, oh0_27, oh0_28, oh0_29, .ref h0_tryDays, .ref h0_tryTicks, .int v_tries, oh0_33, oh0_34, oh0_35, oh0_36, oh0_37])), (h0_parts, .inl (cy 2, 2, .inl v_parts)), (h0_rates, .inl (cy 2, 14, .inl v_rates)), (h0_tryDays, .inl (cy 2, 10, .inl v_tryDays)), (h0_tryTicks, .inl (cy 2, 10, .inl v_tryTicks))] → va_S A s.heap H locs → lv_has ls 5 [(0, .ref h0), (1, .int x1_4), (2, .int x2_4)] → (∀ (H : Heap) (locs : List Loc) (ls : Array Slot), va_P D vwCl [(h0, .inr (9, [oh0_0, oh0_1, oh0_2, .ref h0_parts, .ref h0_rates, oh0_5, oh0_6, oh0_7, oh0_8, oh0_9, oh0_10, oh0_11, oh0_12, oh0_13, oh0_14, oh0_15, oh0_16, oh0_17, oh0_18, oh0_19, oh0_20, oh0_21, oh0_22, oh0_23, oh0_24, oh0_25, oh0_26, oh0_27, oh0_28, oh0_29, .ref h0_tryDays, .ref h0_tryTicks, .int v_tries, oh0_33, oh0_34, oh0_35, oh0_36, oh0_37])), (h0_parts, .inl (cy 2, 2, .inl v_parts)), (h0_rates, .inl (cy 2, 14, .inl v_rates)), (h0_tryDays, .inl (cy 2, 10, .inl v_tryDays)), (h0_tryTicks, .inl (cy 2, 10, .inl v_tryTicks))] H → va_D A [(h0, .inr (9, [oh0_0, oh0_1, oh0_2, .ref h0_parts, .ref h0_rates, oh0_5, oh0_6, oh0_7, oh0_8, oh0_9, oh0_10, oh0_11, oh0_12, oh0_13, oh0_14, oh0_15, oh0_16, oh0_17, oh0_18, oh0_19, oh0_20, oh0_21, oh0_22, oh0_23, oh0_24, oh0_25, oh0_26, oh0_27, oh0_28, oh0_29, .ref h0_tryDays, .ref h0_tryTicks, .int v_tries, oh0_33, oh0_34, oh0_35, oh0_36, oh0_37])), (h0_parts, .inl (cy 2, 2, .inl v_parts)), (h0_rates, .inl (cy 2, 14, .inl v_rates)), (h0_tryDays, .inl (cy 2, 10, .inl v_tryDays)), (h0_tryTicks, .inl (cy 2, 10, .inl v_tryTicks))] → va_S A s.heap H locs → lv_has ls 5 [(1, .int e1_4)] → W p l e r9_fits s m args below meth c H locs 0 0 Q (F0 m 88 ls [])) → W p l e r9_fits s m args below meth c H locs 0 0 Q (F0 m 4 ls []) := by
    intro n4
    induction n4 with
    | zero =>
      intro x1_4 x2_4 e1_4 H locs ls hM
      exact absurd hM (by simp [f9_fits_L4])
    | succ n4 ih4 =>
      intro x1_4 x2_4 e1_4 H locs ls hM hP hD hS hl K
      rw [f9_fits_L4] at hM
      refine lv_iload_n hx hb dX9_fits_4 rfl (lv_at hl 2 rfl) ?_
      refine lv_aload_n hx hb dX9_fits_5 rfl (lv_at hl 0 rfl) ?_
      refine va_get (D := D) (ci := 9) (v := .ref h0_parts) (C := RX9) (T := TX9) (N := 38) hx hb hts iX9 hown hK hP 0 rfl rfl 3 (by decide) k13 (fun _ h9 => h9) rfl dX9_fits_6 ?_
      refine lv_iconst (v := 0) hx hb dX9_fits_9 (by decide) ?_
      obtain ⟨h10, hM⟩ := gi_some hM
      refine va_iald hx hb hK hP 1 2 rfl rfl h10 dX9_fits_10 ?_
      refine lv_icmp_ge (tgt := 88) hx hb dX9_fits_11 (by decide) (fun c11 => ?_) (fun c11 => ?_)
      · have hM := g_pos c11 hM
        obtain rfl := si1 hM
        exact K _ _ _ hP hD hS (lv_sub hl [1] rfl)
      · have hM := g_neg c11 hM
        refine lv_iconst (v := 1) hx hb dX9_fits_14 (by decide) ?_
        refine lv_istore_n (lv' := [(3, .int (1 : Int32)), (0, .ref h0), (1, .int x1_4), (2, .int x2_4)]) hx hb dX9_fits_15 rfl hl (by decide) rfl (fun ls hl => ?_)
        refine lv_iconst (v := 0) hx hb dX9_fits_16 (by decide) ?_
        refine lv_istore (lv' := [(4, .int (0 : Int32)), (3, .int (1 : Int32)), (0, .ref h0), (1, .int x1_4), (2, .int x2_4)]) hx hb dX9_fits_17 hl (by decide) rfl (fun ls hl => ?_)
        have L19 : ∀ (n : Nat) (x3_19 : Int32) (x4_19 : Int32) (e3_19 : Int32) (H : Heap) (locs : List Loc) (ls : Array Slot), f9_fits_L19 N v_tries v_rates v_tryDays v_tryTicks x2_4 n x3_19 x4_19 = some e3_19 → va_P D vwCl [(h0, .inr (9, [oh0_0, oh0_1, oh0_2, .ref h0_parts, .ref h0_rates, oh0_5, oh0_6, oh0_7, oh0_8, oh0_9, oh0_10, oh0_11, oh0_12, oh0_13, oh0_14, oh0_15, oh0_16, oh0_17, oh0_18, oh0_19, oh0_20, oh0_21, oh0_22, oh0_23, oh0_24, oh0_25, oh0_26, oh0_27, oh0_28, oh0_29, .ref h0_tryDays, .ref h0_tryTicks, .int v_tries, oh0_33, oh0_34, oh0_35, oh0_36, oh0_37])), (h0_parts, .inl (cy 2, 2, .inl v_parts)), (h0_rates, .inl (cy 2, 14, .inl v_rates)), (h0_tryDays, .inl (cy 2, 10, .inl v_tryDays)), (h0_tryTicks, .inl (cy 2, 10, .inl v_tryTicks))] H → va_D A [(h0, .inr (9, [oh0_0, oh0_1, oh0_2, .ref h0_parts, .ref h0_rates, oh0_5, oh0_6, oh0_7, oh0_8, oh0_9, oh0_10, oh0_11, oh0_12, oh0_13, oh0_14, oh0_15, oh0_16, oh0_17, oh0_18, oh0_19, oh0_20, oh0_21, oh0_22, oh0_23, oh0_24, oh0_25, oh0_26, oh0_27, oh0_28, oh0_29, .ref h0_tryDays, .ref h0_tryTicks, .int v_tries, oh0_33, oh0_34, oh0_35, oh0_36, oh0_37])), (h0_parts, .inl (cy 2, 2, .inl v_parts)), (h0_rates, .inl (cy 2, 14, .inl v_rates)), (h0_tryDays, .inl (cy 2, 10, .inl v_tryDays)), (h0_tryTicks, .inl (cy 2, 10, .inl v_tryTicks))] → va_S A s.heap H locs → lv_has ls 5 [(0, .ref h0), (1, .int x1_4), (2, .int x2_4), (3, .int x3_19), (4, .int x4_19)] → (∀ (H : Heap) (locs : List Loc) (ls : Array Slot), va_P D vwCl [(h0, .inr (9, [oh0_0, oh0_1, oh0_2, .ref h0_parts, .ref h0_rates, oh0_5, oh0_6, oh0_7, oh0_8, oh0_9, oh0_10, oh0_11, oh0_12, oh0_13, oh0_14, oh0_15, oh0_16, oh0_17, oh0_18, oh0_19, oh0_20, oh0_21, oh0_22, oh0_23, oh0_24, oh0_25, oh0_26, oh0_27, oh0_28, oh0_29, .ref h0_tryDays, .ref h0_tryTicks, .int v_tries, oh0_33, oh0_34, oh0_35, oh0_36, oh0_37])), (h0_parts, .inl (cy 2, 2, .inl v_parts)), (h0_rates, .inl (cy 2, 14, .inl v_rates)), (h0_tryDays, .inl (cy 2, 10, .inl v_tryDays)), (h0_tryTicks, .inl (cy 2, 10, .inl v_tryTicks))] H → va_D A [(h0, .inr (9, [oh0_0, oh0_1, oh0_2, .ref h0_parts, .ref h0_rates, oh0_5, oh0_6, oh0_7, oh0_8, oh0_9, oh0_10, oh0_11, oh0_12, oh0_13, oh0_14, oh0_15, oh0_16, oh0_17, oh0_18, oh0_19, oh0_20, oh0_21, oh0_22, oh0_23, oh0_24, oh0_25, oh0_26, oh0_27, oh0_28, oh0_29, .ref h0_tryDays, .ref h0_tryTicks, .int v_tries, oh0_33, oh0_34, oh0_35, oh0_36, oh0_37])), (h0_parts, .inl (cy 2, 2, .inl v_parts)), (h0_rates, .inl (cy 2, 14, .inl v_rates)), (h0_tryDays, .inl (cy 2, 10, .inl v_tryDays)), (h0_tryTicks, .inl (cy 2, 10, .inl v_tryTicks))] → va_S A s.heap H locs → lv_has ls 5 [(0, .ref h0), (1, .int x1_4), (2, .int x2_4), (3, .int e3_19)] → W p l e r9_fits s m args below meth c H locs 0 0 Q (F0 m 68 ls [])) → W p l e r9_fits s m args below meth c H locs 0 0 Q (F0 m 19 ls []) := by
          intro n19
          induction n19 with
          | zero =>
            intro x3_19 x4_19 e3_19 H locs ls hM
            exact absurd hM (by simp [f9_fits_L19])
          | succ n19 ih19 =>
            intro x3_19 x4_19 e3_19 H locs ls hM hP hD hS hl K
            rw [f9_fits_L19] at hM
            refine lv_iload hx hb dX9_fits_19 (lv_at hl 4 rfl) ?_
            refine lv_aload_n hx hb dX9_fits_21 rfl (lv_at hl 0 rfl) ?_
            refine va_get (D := D) (ci := 9) (v := .int v_tries) (C := RX9) (T := TX9) (N := 38) hx hb hts iX9 hown hK hP 0 rfl rfl 32 (by decide) k162 (fun _ h9 => h9) rfl dX9_fits_22 ?_
            refine lv_icmp_ge (tgt := 68) hx hb dX9_fits_25 (by decide) (fun c25 => ?_) (fun c25 => ?_)
            · have hM := g_pos c25 hM
              obtain rfl := si1 hM
              exact K _ _ _ hP hD hS (lv_sub hl [0, 1, 2, 3] rfl)
            · have hM := g_neg c25 hM
              refine lv_iload_n hx hb dX9_fits_28 rfl (lv_at hl 3 rfl) ?_
              refine lv_if_eq (tgt := 60) hx hb dX9_fits_29 (by decide) (fun c29 => ?_) (fun c29 => ?_)
              · have hM := g_pos c29 hM
                refine lv_iconst (v := 0) hx hb dX9_fits_60 (by decide) ?_
                refine lv_istore_n (lv' := [(3, .int (0 : Int32)), (0, .ref h0), (1, .int x1_4), (2, .int x2_4), (4, .int x4_19)]) hx hb dX9_fits_61 rfl hl (by decide) rfl (fun ls hl => ?_)
                refine lv_iinc (v := x4_19 + (1 : Int32)) (lv' := [(4, .int (x4_19 + (1 : Int32))), (3, .int (0 : Int32)), (0, .ref h0), (1, .int x1_4), (2, .int x2_4)]) hx hb dX9_fits_62 hl (k := 4) rfl rfl (by decide) rfl (fun ls hl => ?_)
                refine lv_goto (tgt := 19) hx hb dX9_fits_65 (by decide) ?_
                exact ih19 (0 : Int32) (x4_19 + (1 : Int32)) e3_19 _ _ _ hM hP hD hS (lv_sub hl [2, 3, 4, 1, 0] rfl) K
              · have hM := g_neg c29 hM
                refine lv_aload_n hx hb dX9_fits_32 rfl (lv_at hl 0 rfl) ?_
                refine va_get (D := D) (ci := 9) (v := .ref h0_tryDays) (C := RX9) (T := TX9) (N := 38) hx hb hts iX9 hown hK hP 0 rfl rfl 30 (by decide) k73 (fun _ h9 => h9) rfl dX9_fits_33 ?_
                refine lv_iload hx hb dX9_fits_36 (lv_at hl 4 rfl) ?_
                obtain ⟨h38, hM⟩ := gi_some hM
                refine va_iald hx hb hK hP 3 2 rfl rfl h38 dX9_fits_38 ?_
                refine lv_aload_n hx hb dX9_fits_39 rfl (lv_at hl 0 rfl) ?_
                refine va_get (D := D) (ci := 9) (v := .ref h0_rates) (C := RX9) (T := TX9) (N := 38) hx hb hts iX9 hown hK hP 0 rfl rfl 4 (by decide) k17 (fun _ h9 => h9) rfl dX9_fits_40 ?_
                refine lv_iload_n hx hb dX9_fits_43 rfl (lv_at hl 2 rfl) ?_
                obtain ⟨h44, hM⟩ := gi_some hM
                refine va_iald hx hb hK hP 2 2 rfl rfl h44 dX9_fits_44 ?_
                refine lv_imul hx hb dX9_fits_45 ?_
                refine lv_aload_n hx hb dX9_fits_46 rfl (lv_at hl 0 rfl) ?_
                refine va_get (D := D) (ci := 9) (v := .ref h0_tryTicks) (C := RX9) (T := TX9) (N := 38) hx hb hts iX9 hown hK hP 0 rfl rfl 31 (by decide) k76 (fun _ h9 => h9) rfl dX9_fits_47 ?_
                refine lv_iload hx hb dX9_fits_50 (lv_at hl 4 rfl) ?_
                obtain ⟨h52, hM⟩ := gi_some hM
                refine va_iald hx hb hK hP 4 2 rfl rfl h52 dX9_fits_52 ?_
                refine lv_icmp_ne (tgt := 60) hx hb dX9_fits_53 (by decide) (fun c53 => ?_) (fun c53 => ?_)
                · have hM := g_neg c53 hM
                  refine lv_iconst (v := 0) hx hb dX9_fits_60 (by decide) ?_
                  refine lv_istore_n (lv' := [(3, .int (0 : Int32)), (0, .ref h0), (1, .int x1_4), (2, .int x2_4), (4, .int x4_19)]) hx hb dX9_fits_61 rfl hl (by decide) rfl (fun ls hl => ?_)
                  refine lv_iinc (v := x4_19 + (1 : Int32)) (lv' := [(4, .int (x4_19 + (1 : Int32))), (3, .int (0 : Int32)), (0, .ref h0), (1, .int x1_4), (2, .int x2_4)]) hx hb dX9_fits_62 hl (k := 4) rfl rfl (by decide) rfl (fun ls hl => ?_)
                  refine lv_goto (tgt := 19) hx hb dX9_fits_65 (by decide) ?_
                  exact ih19 (0 : Int32) (x4_19 + (1 : Int32)) e3_19 _ _ _ hM hP hD hS (lv_sub hl [2, 3, 4, 1, 0] rfl) K
                · have hM := g_pos c53 hM
                  refine lv_iconst (v := 1) hx hb dX9_fits_56 (by decide) ?_
                  refine lv_goto (tgt := 61) hx hb dX9_fits_57 (by decide) ?_
                  refine lv_istore_n (lv' := [(3, .int (1 : Int32)), (0, .ref h0), (1, .int x1_4), (2, .int x2_4), (4, .int x4_19)]) hx hb dX9_fits_61 rfl hl (by decide) rfl (fun ls hl => ?_)
                  refine lv_iinc (v := x4_19 + (1 : Int32)) (lv' := [(4, .int (x4_19 + (1 : Int32))), (3, .int (1 : Int32)), (0, .ref h0), (1, .int x1_4), (2, .int x2_4)]) hx hb dX9_fits_62 hl (k := 4) rfl rfl (by decide) rfl (fun ls hl => ?_)
                  refine lv_goto (tgt := 19) hx hb dX9_fits_65 (by decide) ?_
                  exact ih19 (1 : Int32) (x4_19 + (1 : Int32)) e3_19 _ _ _ hM hP hD hS (lv_sub hl [2, 3, 4, 1, 0] rfl) K
        obtain ⟨e3_19, hL19, hM⟩ := ob1_some hM
        refine L19 N (1 : Int32) (0 : Int32) e3_19 _ _ _ hL19 hP hD hS (lv_sub hl [2, 3, 4, 1, 0] rfl) ?_
        intro H locs ls hP hD hS hl
        refine lv_iload_n hx hb dX9_fits_68 rfl (lv_at hl 1 rfl) ?_
        refine lv_iload_n hx hb dX9_fits_69 rfl (lv_at hl 3 rfl) ?_
        refine lv_if_eq (tgt := 79) hx hb dX9_fits_70 (by decide) (fun c70 => ?_) (fun c70 => ?_)
        · have hM := g_pos c70 hM
          refine lv_iconst (v := 0) hx hb dX9_fits_79 (by decide) ?_
          refine lv_ior hx hb dX9_fits_80 ?_
          refine lv_istore_n (lv' := [(1, .int (x1_4 ||| (0 : Int32))), (0, .ref h0), (2, .int x2_4), (3, .int e3_19)]) hx hb dX9_fits_81 rfl hl (by decide) rfl (fun ls hl => ?_)
          refine lv_iinc (v := x2_4 + (1 : Int32)) (lv' := [(2, .int (x2_4 + (1 : Int32))), (1, .int (x1_4 ||| (0 : Int32))), (0, .ref h0), (3, .int e3_19)]) hx hb dX9_fits_82 hl (k := 2) rfl rfl (by decide) rfl (fun ls hl => ?_)
          refine lv_goto (tgt := 4) hx hb dX9_fits_85 (by decide) ?_
          exact ih4 (x1_4 ||| (0 : Int32)) (x2_4 + (1 : Int32)) e1_4 _ _ _ hM hP hD hS (lv_sub hl [2, 1, 0] rfl) K
        · have hM := g_neg c70 hM
          refine lv_iconst (v := 1) hx hb dX9_fits_73 (by decide) ?_
          refine lv_iload_n hx hb dX9_fits_74 rfl (lv_at hl 2 rfl) ?_
          refine lv_ishl hx hb dX9_fits_75 ?_
          refine lv_goto (tgt := 80) hx hb dX9_fits_76 (by decide) ?_
          refine lv_ior hx hb dX9_fits_80 ?_
          refine lv_istore_n (lv' := [(1, .int (x1_4 ||| ((1 : Int32) <<< (x2_4 &&& 31)))), (0, .ref h0), (2, .int x2_4), (3, .int e3_19)]) hx hb dX9_fits_81 rfl hl (by decide) rfl (fun ls hl => ?_)
          refine lv_iinc (v := x2_4 + (1 : Int32)) (lv' := [(2, .int (x2_4 + (1 : Int32))), (1, .int (x1_4 ||| ((1 : Int32) <<< (x2_4 &&& 31)))), (0, .ref h0), (3, .int e3_19)]) hx hb dX9_fits_82 hl (k := 2) rfl rfl (by decide) rfl (fun ls hl => ?_)
          refine lv_goto (tgt := 4) hx hb dX9_fits_85 (by decide) ?_
          exact ih4 (x1_4 ||| ((1 : Int32) <<< (x2_4 &&& 31))) (x2_4 + (1 : Int32)) e1_4 _ _ _ hM hP hD hS (lv_sub hl [2, 1, 0] rfl) K
  obtain ⟨e1_4, hL4, hM⟩ := ob1_some hM
  refine L4 N (0 : Int32) (0 : Int32) e1_4 _ _ _ hL4 hP hD hS (lv_sub hl [2, 1, 0] rfl) ?_
  intro H locs ls hP hD hS hl
  refine lv_iload_n hx hb dX9_fits_88 rfl (lv_at hl 0 rfl) ?_
  obtain rfl := si1 hM
  exact hret _ _ _ _ _ dX9_fits_89 rfl rfl hP hD hS

-- ===== X9_line line (II)I =====
abbrev r9_line : Room := { frames := 1, cells := 0, slots := 0, locals := 22 }
def f9_line (N : Nat) (p1 : Int32) (p2 : Int32) (v_lines : Int32) (v_lineDate : Nat → Int32) (v_lineAge : Nat → Int32) : Option (Int32 × Int32 × (Nat → Int32) × (Nat → Int32)) :=
  ob1 (f9_in N p1 (0 : Int32) (500 : Int32)) fun r5 => if r5 = (0 : Int32) then (some ((-1000000002 : Int32), v_lines, v_lineDate, v_lineAge)) else (ob1 (f9_in N p2 (0 : Int32) (200 : Int32)) fun r16 => if r16 = (0 : Int32) then (some ((-1000000002 : Int32), v_lines, v_lineDate, v_lineAge)) else (if v_lines = (8 : Int32) then (some ((-1000000004 : Int32), v_lines, v_lineDate, v_lineAge)) else (gi v_lines 8 (gi v_lines 8 (some ((v_lines + (1 : Int32)), (v_lines + (1 : Int32)), (upd v_lineDate v_lines.toNatClampNeg p1), (upd v_lineAge v_lines.toNatClampNeg p2)))))))
set_option maxHeartbeats 4000000 in
set_option maxRecDepth 100000 in
theorem c9_line (l : Launch) (D : va_G) (cy : Nat → ClassId) (N : Nat) (h0 h0_lineDate h0_lineAge : Nat) (oh0_0 oh0_1 oh0_2 oh0_3 oh0_4 oh0_5 oh0_6 oh0_7 oh0_8 oh0_9 oh0_10 oh0_11 oh0_12 oh0_13 oh0_14 oh0_15 oh0_16 oh0_17 oh0_18 oh0_19 oh0_20 oh0_21 oh0_22 oh0_23 oh0_24 oh0_25 oh0_26 oh0_27 oh0_28 oh0_29 oh0_30 oh0_31 oh0_32 oh0_36 oh0_37 : Value) (p1 : Int32) (p2 : Int32) (v_lines : Int32) (v_lineDate : Nat → Int32) (v_lineAge : Nat → Int32) (r : Int32) (nv_lines : Int32) (nv_lineDate : Nat → Int32) (nv_lineAge : Nat → Int32) (hM : f9_line N p1 p2 v_lines v_lineDate v_lineAge = some (r, nv_lines, nv_lineDate, nv_lineAge)) (sz : Nat) : CTi l yX9_line wsX9_line r9_line [.ref h0, .int p1, .int p2] D cy sz [(h0, .inr (9, [oh0_0, oh0_1, oh0_2, oh0_3, oh0_4, oh0_5, oh0_6, oh0_7, oh0_8, oh0_9, oh0_10, oh0_11, oh0_12, oh0_13, oh0_14, oh0_15, oh0_16, oh0_17, oh0_18, oh0_19, oh0_20, oh0_21, oh0_22, oh0_23, oh0_24, oh0_25, oh0_26, oh0_27, oh0_28, oh0_29, oh0_30, oh0_31, oh0_32, .ref h0_lineDate, .ref h0_lineAge, .int v_lines, oh0_36, oh0_37])), (h0_lineDate, .inl (cy 2, 8, .inl v_lineDate)), (h0_lineAge, .inl (cy 2, 8, .inl v_lineAge))] [(h0, .inr (9, [oh0_0, oh0_1, oh0_2, oh0_3, oh0_4, oh0_5, oh0_6, oh0_7, oh0_8, oh0_9, oh0_10, oh0_11, oh0_12, oh0_13, oh0_14, oh0_15, oh0_16, oh0_17, oh0_18, oh0_19, oh0_20, oh0_21, oh0_22, oh0_23, oh0_24, oh0_25, oh0_26, oh0_27, oh0_28, oh0_29, oh0_30, oh0_31, oh0_32, .ref h0_lineDate, .ref h0_lineAge, .int nv_lines, oh0_36, oh0_37])), (h0_lineDate, .inl (cy 2, 8, .inl nv_lineDate)), (h0_lineAge, .inl (cy 2, 8, .inl nv_lineAge))] r := by
  unfold f9_line at hM
  refine ct_oi (cc := cX9_line) (maxL := 3) (ty := .int) (by decide +kernel) rfl (Nat.le_of_ble_eq_true rfl) (lv0 := [(0, .ref h0), (1, .int p1), (2, .int p2)]) rfl ?_
  intro p e s m args below meth c A Q ls hx hb hts hown hml hK hP hD hS hA hret hl
  have hown : s.vm.findClass RX9 = some m.cls := hown
  have k99 := hts (.constant RX9 99 (-1000000002)) (List.mem_of_getElem? (i := 1) (by decide +kernel))
  have k165 := hts (.fieldLink RX9 165 "CaveYearsModel" "lines" "I") (List.mem_of_getElem? (i := 2) (by decide +kernel))
  have iX9 := (fun w h => (List.mem_cons_of_mem _ (List.mem_append_right _ h)) : ∀ w ∈ wsX90, w ∈ wsX9_line)
  have k79 := hts (.fieldLink RX9 79 "CaveYearsModel" "lineDate" "[I") (List.mem_of_getElem? (i := 4) (by decide +kernel))
  have k82 := hts (.fieldLink RX9 82 "CaveYearsModel" "lineAge" "[I") (List.mem_of_getElem? (i := 5) (by decide +kernel))
  have k103 := hts (.constant RX9 103 (-1000000004)) (List.mem_of_getElem? (i := 3) (by decide +kernel))
  refine lv_iload_n hx hb dX9_line_0 rfl (lv_at hl 1 rfl) ?_
  refine lv_iconst (v := 0) hx hb dX9_line_1 (by decide) ?_
  refine lv_sipush (v := 500) hx hb dX9_line_2 (by decide) ?_
  obtain ⟨r5, hc5, hM⟩ := ob1_some hM
  refine cl_si (As := [.int p1, .int (0 : Int32), .int (500 : Int32)]) (rest := []) (wr := [(h0, .inr (9, [oh0_0, oh0_1, oh0_2, oh0_3, oh0_4, oh0_5, oh0_6, oh0_7, oh0_8, oh0_9, oh0_10, oh0_11, oh0_12, oh0_13, oh0_14, oh0_15, oh0_16, oh0_17, oh0_18, oh0_19, oh0_20, oh0_21, oh0_22, oh0_23, oh0_24, oh0_25, oh0_26, oh0_27, oh0_28, oh0_29, oh0_30, oh0_31, oh0_32, .ref h0_lineDate, .ref h0_lineAge, .int v_lines, oh0_36, oh0_37])), (h0_lineDate, .inl (cy 2, 8, .inl v_lineDate)), (h0_lineAge, .inl (cy 2, 8, .inl v_lineAge))]) (ws2 := [(h0, .inr (9, [oh0_0, oh0_1, oh0_2, oh0_3, oh0_4, oh0_5, oh0_6, oh0_7, oh0_8, oh0_9, oh0_10, oh0_11, oh0_12, oh0_13, oh0_14, oh0_15, oh0_16, oh0_17, oh0_18, oh0_19, oh0_20, oh0_21, oh0_22, oh0_23, oh0_24, oh0_25, oh0_26, oh0_27, oh0_28, oh0_29, oh0_30, oh0_31, oh0_32, .ref h0_lineDate, .ref h0_lineAge, .int v_lines, oh0_36, oh0_37])), (h0_lineDate, .inl (cy 2, 8, .inl v_lineDate)), (h0_lineAge, .inl (cy 2, 8, .inl v_lineAge))]) (isC := []) (isR := [0, 1, 2]) (pm := [0, 1, 2]) hx hb hml hown hts (c9_in l D cy N p1 (0 : Int32) (500 : Int32) r5 hc5) (va_cwS 3 hts gX9_line_X9_in rfl rfl rfl (by decide +kernel) ⟨Nat.le_of_ble_eq_true rfl, Nat.le_of_ble_eq_true rfl⟩) hK hP hD hS hA rfl rfl rfl (by decide) rfl rfl rfl hl.1 (Nat.le_of_ble_eq_true rfl) dX9_line_5 ⟨Nat.zero_le _, Nat.zero_le _⟩ rfl rfl (fun H locs hP hD hS => ?_)
  refine lv_if_eq (tgt := 22) hx hb dX9_line_8 (by decide) (fun c8 => ?_) (fun c8 => ?_)
  · have hM := g_pos c8 hM
    refine lv_ldc (v := -1000000002) hx hb hown k99 dX9_line_22 ?_
    obtain ⟨rfl, rfl, rfl, rfl⟩ := si4 hM
    exact hret _ _ _ _ _ dX9_line_24 rfl rfl hP hD hS
  · have hM := g_neg c8 hM
    refine lv_iload_n hx hb dX9_line_11 rfl (lv_at hl 2 rfl) ?_
    refine lv_iconst (v := 0) hx hb dX9_line_12 (by decide) ?_
    refine lv_sipush (v := 200) hx hb dX9_line_13 (by decide) ?_
    obtain ⟨r16, hc16, hM⟩ := ob1_some hM
    refine cl_si (As := [.int p2, .int (0 : Int32), .int (200 : Int32)]) (rest := []) (wr := [(h0, .inr (9, [oh0_0, oh0_1, oh0_2, oh0_3, oh0_4, oh0_5, oh0_6, oh0_7, oh0_8, oh0_9, oh0_10, oh0_11, oh0_12, oh0_13, oh0_14, oh0_15, oh0_16, oh0_17, oh0_18, oh0_19, oh0_20, oh0_21, oh0_22, oh0_23, oh0_24, oh0_25, oh0_26, oh0_27, oh0_28, oh0_29, oh0_30, oh0_31, oh0_32, .ref h0_lineDate, .ref h0_lineAge, .int v_lines, oh0_36, oh0_37])), (h0_lineDate, .inl (cy 2, 8, .inl v_lineDate)), (h0_lineAge, .inl (cy 2, 8, .inl v_lineAge))]) (ws2 := [(h0, .inr (9, [oh0_0, oh0_1, oh0_2, oh0_3, oh0_4, oh0_5, oh0_6, oh0_7, oh0_8, oh0_9, oh0_10, oh0_11, oh0_12, oh0_13, oh0_14, oh0_15, oh0_16, oh0_17, oh0_18, oh0_19, oh0_20, oh0_21, oh0_22, oh0_23, oh0_24, oh0_25, oh0_26, oh0_27, oh0_28, oh0_29, oh0_30, oh0_31, oh0_32, .ref h0_lineDate, .ref h0_lineAge, .int v_lines, oh0_36, oh0_37])), (h0_lineDate, .inl (cy 2, 8, .inl v_lineDate)), (h0_lineAge, .inl (cy 2, 8, .inl v_lineAge))]) (isC := []) (isR := [0, 1, 2]) (pm := [0, 1, 2]) hx hb hml hown hts (c9_in l D cy N p2 (0 : Int32) (200 : Int32) r16 hc16) (va_cwS 3 hts gX9_line_X9_in rfl rfl rfl (by decide +kernel) ⟨Nat.le_of_ble_eq_true rfl, Nat.le_of_ble_eq_true rfl⟩) hK hP hD hS hA rfl rfl rfl (by decide) rfl rfl rfl hl.1 (Nat.le_of_ble_eq_true rfl) dX9_line_16 ⟨Nat.zero_le _, Nat.zero_le _⟩ rfl rfl (fun H locs hP hD hS => ?_)
    refine lv_if_ne (tgt := 25) hx hb dX9_line_19 (by decide) (fun c19 => ?_) (fun c19 => ?_)
    · have hM := g_neg c19 hM
      refine lv_aload_n hx hb dX9_line_25 rfl (lv_at hl 0 rfl) ?_
      refine va_get (D := D) (ci := 9) (v := .int v_lines) (C := RX9) (T := TX9) (N := 38) hx hb hts iX9 hown hK hP 0 rfl rfl 35 (by decide) k165 (fun _ h9 => h9) rfl dX9_line_26 ?_
      refine lv_bipush (v := 8) hx hb dX9_line_29 (by decide) ?_
      refine lv_icmp_ne (tgt := 37) hx hb dX9_line_31 (by decide) (fun c31 => ?_) (fun c31 => ?_)
      · have hM := g_neg c31 hM
        refine lv_aload_n hx hb dX9_line_37 rfl (lv_at hl 0 rfl) ?_
        refine va_get (D := D) (ci := 9) (v := .ref h0_lineDate) (C := RX9) (T := TX9) (N := 38) hx hb hts iX9 hown hK hP 0 rfl rfl 33 (by decide) k79 (fun _ h9 => h9) rfl dX9_line_38 ?_
        refine lv_aload_n hx hb dX9_line_41 rfl (lv_at hl 0 rfl) ?_
        refine va_get (D := D) (ci := 9) (v := .int v_lines) (C := RX9) (T := TX9) (N := 38) hx hb hts iX9 hown hK hP 0 rfl rfl 35 (by decide) k165 (fun _ h9 => h9) rfl dX9_line_42 ?_
        refine lv_iload_n hx hb dX9_line_45 rfl (lv_at hl 1 rfl) ?_
        obtain ⟨h46, hM⟩ := gi_some hM
        refine va_iast hx hb hK hP hD hS 1 2 rfl rfl h46 dX9_line_46 (fun H locs hP hD hS => ?_)
        have hP : va_P D vwCl [(h0, .inr (9, [oh0_0, oh0_1, oh0_2, oh0_3, oh0_4, oh0_5, oh0_6, oh0_7, oh0_8, oh0_9, oh0_10, oh0_11, oh0_12, oh0_13, oh0_14, oh0_15, oh0_16, oh0_17, oh0_18, oh0_19, oh0_20, oh0_21, oh0_22, oh0_23, oh0_24, oh0_25, oh0_26, oh0_27, oh0_28, oh0_29, oh0_30, oh0_31, oh0_32, .ref h0_lineDate, .ref h0_lineAge, .int v_lines, oh0_36, oh0_37])), (h0_lineDate, .inl (cy 2, 8, .inl (upd v_lineDate v_lines.toNatClampNeg p1))), (h0_lineAge, .inl (cy 2, 8, .inl v_lineAge))] H := hP
        have hD : va_D A [(h0, .inr (9, [oh0_0, oh0_1, oh0_2, oh0_3, oh0_4, oh0_5, oh0_6, oh0_7, oh0_8, oh0_9, oh0_10, oh0_11, oh0_12, oh0_13, oh0_14, oh0_15, oh0_16, oh0_17, oh0_18, oh0_19, oh0_20, oh0_21, oh0_22, oh0_23, oh0_24, oh0_25, oh0_26, oh0_27, oh0_28, oh0_29, oh0_30, oh0_31, oh0_32, .ref h0_lineDate, .ref h0_lineAge, .int v_lines, oh0_36, oh0_37])), (h0_lineDate, .inl (cy 2, 8, .inl (upd v_lineDate v_lines.toNatClampNeg p1))), (h0_lineAge, .inl (cy 2, 8, .inl v_lineAge))] := hD
        refine lv_aload_n hx hb dX9_line_47 rfl (lv_at hl 0 rfl) ?_
        refine va_get (D := D) (ci := 9) (v := .ref h0_lineAge) (C := RX9) (T := TX9) (N := 38) hx hb hts iX9 hown hK hP 0 rfl rfl 34 (by decide) k82 (fun _ h9 => h9) rfl dX9_line_48 ?_
        refine lv_aload_n hx hb dX9_line_51 rfl (lv_at hl 0 rfl) ?_
        refine va_get (D := D) (ci := 9) (v := .int v_lines) (C := RX9) (T := TX9) (N := 38) hx hb hts iX9 hown hK hP 0 rfl rfl 35 (by decide) k165 (fun _ h9 => h9) rfl dX9_line_52 ?_
        refine lv_iload_n hx hb dX9_line_55 rfl (lv_at hl 2 rfl) ?_
        obtain ⟨h56, hM⟩ := gi_some hM
        refine va_iast hx hb hK hP hD hS 2 2 rfl rfl h56 dX9_line_56 (fun H locs hP hD hS => ?_)
        have hP : va_P D vwCl [(h0, .inr (9, [oh0_0, oh0_1, oh0_2, oh0_3, oh0_4, oh0_5, oh0_6, oh0_7, oh0_8, oh0_9, oh0_10, oh0_11, oh0_12, oh0_13, oh0_14, oh0_15, oh0_16, oh0_17, oh0_18, oh0_19, oh0_20, oh0_21, oh0_22, oh0_23, oh0_24, oh0_25, oh0_26, oh0_27, oh0_28, oh0_29, oh0_30, oh0_31, oh0_32, .ref h0_lineDate, .ref h0_lineAge, .int v_lines, oh0_36, oh0_37])), (h0_lineDate, .inl (cy 2, 8, .inl (upd v_lineDate v_lines.toNatClampNeg p1))), (h0_lineAge, .inl (cy 2, 8, .inl (upd v_lineAge v_lines.toNatClampNeg p2)))] H := hP
        have hD : va_D A [(h0, .inr (9, [oh0_0, oh0_1, oh0_2, oh0_3, oh0_4, oh0_5, oh0_6, oh0_7, oh0_8, oh0_9, oh0_10, oh0_11, oh0_12, oh0_13, oh0_14, oh0_15, oh0_16, oh0_17, oh0_18, oh0_19, oh0_20, oh0_21, oh0_22, oh0_23, oh0_24, oh0_25, oh0_26, oh0_27, oh0_28, oh0_29, oh0_30, oh0_31, oh0_32, .ref h0_lineDate, .ref h0_lineAge, .int v_lines, oh0_36, oh0_37])), (h0_lineDate, .inl (cy 2, 8, .inl (upd v_lineDate v_lines.toNatClampNeg p1))), (h0_lineAge, .inl (cy 2, 8, .inl (upd v_lineAge v_lines.toNatClampNeg p2)))] := hD
        refine lv_aload_n hx hb dX9_line_57 rfl (lv_at hl 0 rfl) ?_
        refine lv_dup hx hb dX9_line_58 rfl ?_
        refine va_get (D := D) (ci := 9) (v := .int v_lines) (C := RX9) (T := TX9) (N := 38) hx hb hts iX9 hown hK hP 0 rfl rfl 35 (by decide) k165 (fun _ h9 => h9) rfl dX9_line_59 ?_
        refine lv_iconst (v := 1) hx hb dX9_line_62 (by decide) ?_
        refine lv_iadd hx hb dX9_line_63 ?_
        refine va_put (D := D) (ci := 9) (v := .int (v_lines + (1 : Int32))) (ty := .int) (C := RX9) (T := TX9) (N := 38) hx hb hts iX9 tyX9 tyX9_ok nmX9 hown hK hP hD hS 0 rfl rfl 35 (by decide) k165 (fun _ h9 => h9) rfl (by decide +kernel) rfl rfl (Nat.le_of_ble_eq_true rfl) dX9_line_64 (fun H locs hP hD hS => ?_)
        have hP : va_P D vwCl [(h0, .inr (9, [oh0_0, oh0_1, oh0_2, oh0_3, oh0_4, oh0_5, oh0_6, oh0_7, oh0_8, oh0_9, oh0_10, oh0_11, oh0_12, oh0_13, oh0_14, oh0_15, oh0_16, oh0_17, oh0_18, oh0_19, oh0_20, oh0_21, oh0_22, oh0_23, oh0_24, oh0_25, oh0_26, oh0_27, oh0_28, oh0_29, oh0_30, oh0_31, oh0_32, .ref h0_lineDate, .ref h0_lineAge, .int (v_lines + (1 : Int32)), oh0_36, oh0_37])), (h0_lineDate, .inl (cy 2, 8, .inl (upd v_lineDate v_lines.toNatClampNeg p1))), (h0_lineAge, .inl (cy 2, 8, .inl (upd v_lineAge v_lines.toNatClampNeg p2)))] H := hP
        have hD : va_D A [(h0, .inr (9, [oh0_0, oh0_1, oh0_2, oh0_3, oh0_4, oh0_5, oh0_6, oh0_7, oh0_8, oh0_9, oh0_10, oh0_11, oh0_12, oh0_13, oh0_14, oh0_15, oh0_16, oh0_17, oh0_18, oh0_19, oh0_20, oh0_21, oh0_22, oh0_23, oh0_24, oh0_25, oh0_26, oh0_27, oh0_28, oh0_29, oh0_30, oh0_31, oh0_32, .ref h0_lineDate, .ref h0_lineAge, .int (v_lines + (1 : Int32)), oh0_36, oh0_37])), (h0_lineDate, .inl (cy 2, 8, .inl (upd v_lineDate v_lines.toNatClampNeg p1))), (h0_lineAge, .inl (cy 2, 8, .inl (upd v_lineAge v_lines.toNatClampNeg p2)))] := hD
        refine lv_aload_n hx hb dX9_line_67 rfl (lv_at hl 0 rfl) ?_
        refine va_get (D := D) (ci := 9) (v := .int (v_lines + (1 : Int32))) (C := RX9) (T := TX9) (N := 38) hx hb hts iX9 hown hK hP 0 rfl rfl 35 (by decide) k165 (fun _ h9 => h9) rfl dX9_line_68 ?_
        obtain ⟨rfl, rfl, rfl, rfl⟩ := si4 hM
        exact hret _ _ _ _ _ dX9_line_71 rfl rfl hP hD hS
      · have hM := g_pos c31 hM
        refine lv_ldc (v := -1000000004) hx hb hown k103 dX9_line_34 ?_
        obtain ⟨rfl, rfl, rfl, rfl⟩ := si4 hM
        exact hret _ _ _ _ _ dX9_line_36 rfl rfl hP hD hS
    · have hM := g_pos c19 hM
      refine lv_ldc (v := -1000000002) hx hb hown k99 dX9_line_22 ?_
      obtain ⟨rfl, rfl, rfl, rfl⟩ := si4 hM
      exact hret _ _ _ _ _ dX9_line_24 rfl rfl hP hD hS

-- ===== X9_isOne isOne (II)Z =====
abbrev r9_isOne : Room := { frames := 1, cells := 0, slots := 0, locals := 22 }
def f9_isOne_J31 (N : Nat) (p2 : Int32) (v_lineDate : Nat → Int32) (v_lineAge : Nat → Int32) (s0_31 : Int32) : Option Int32 :=
  gi s0_31 8 (gi p2 8 (gi s0_31 8 (gi p2 8 (ob1 (f9_in N ((v_lineAge s0_31.toNatClampNeg) - (v_lineAge p2.toNatClampNeg)) (0 : Int32) ((v_lineDate s0_31.toNatClampNeg) - (v_lineDate p2.toNatClampNeg))) fun r62 => gb r62 (some r62)))))
def f9_isOne_J31b (N : Nat) (p1 : Int32) (v_lineDate : Nat → Int32) (v_lineAge : Nat → Int32) (s0_31 : Int32) : Option Int32 :=
  gi s0_31 8 (gi p1 8 (gi s0_31 8 (gi p1 8 (ob1 (f9_in N ((v_lineAge s0_31.toNatClampNeg) - (v_lineAge p1.toNatClampNeg)) (0 : Int32) ((v_lineDate s0_31.toNatClampNeg) - (v_lineDate p1.toNatClampNeg))) fun r62 => gb r62 (some r62)))))
def f9_isOne (N : Nat) (p1 : Int32) (p2 : Int32) (v_lineDate : Nat → Int32) (v_lineAge : Nat → Int32) : Option Int32 :=
  gi p1 8 (gi p2 8 (if (v_lineDate p2.toNatClampNeg) < (v_lineDate p1.toNatClampNeg) then (if p2 = p1 then (f9_isOne_J31 N p2 v_lineDate v_lineAge p2) else (f9_isOne_J31 N p2 v_lineDate v_lineAge p1)) else (if p1 = p1 then (f9_isOne_J31b N p1 v_lineDate v_lineAge p2) else (f9_isOne_J31b N p1 v_lineDate v_lineAge p1))))
set_option maxHeartbeats 4000000 in
set_option maxRecDepth 100000 in
theorem c9_isOne (l : Launch) (D : va_G) (cy : Nat → ClassId) (N : Nat) (h0 h0_lineDate h0_lineAge : Nat) (oh0_0 oh0_1 oh0_2 oh0_3 oh0_4 oh0_5 oh0_6 oh0_7 oh0_8 oh0_9 oh0_10 oh0_11 oh0_12 oh0_13 oh0_14 oh0_15 oh0_16 oh0_17 oh0_18 oh0_19 oh0_20 oh0_21 oh0_22 oh0_23 oh0_24 oh0_25 oh0_26 oh0_27 oh0_28 oh0_29 oh0_30 oh0_31 oh0_32 oh0_35 oh0_36 oh0_37 : Value) (p1 : Int32) (p2 : Int32) (v_lineDate : Nat → Int32) (v_lineAge : Nat → Int32) (r : Int32) (hM : f9_isOne N p1 p2 v_lineDate v_lineAge = some r) (sz : Nat) : CTi l yX9_isOne wsX9_isOne r9_isOne [.ref h0, .int p1, .int p2] D cy sz [(h0, .inr (9, [oh0_0, oh0_1, oh0_2, oh0_3, oh0_4, oh0_5, oh0_6, oh0_7, oh0_8, oh0_9, oh0_10, oh0_11, oh0_12, oh0_13, oh0_14, oh0_15, oh0_16, oh0_17, oh0_18, oh0_19, oh0_20, oh0_21, oh0_22, oh0_23, oh0_24, oh0_25, oh0_26, oh0_27, oh0_28, oh0_29, oh0_30, oh0_31, oh0_32, .ref h0_lineDate, .ref h0_lineAge, oh0_35, oh0_36, oh0_37])), (h0_lineDate, .inl (cy 2, 8, .inl v_lineDate)), (h0_lineAge, .inl (cy 2, 8, .inl v_lineAge))] [(h0, .inr (9, [oh0_0, oh0_1, oh0_2, oh0_3, oh0_4, oh0_5, oh0_6, oh0_7, oh0_8, oh0_9, oh0_10, oh0_11, oh0_12, oh0_13, oh0_14, oh0_15, oh0_16, oh0_17, oh0_18, oh0_19, oh0_20, oh0_21, oh0_22, oh0_23, oh0_24, oh0_25, oh0_26, oh0_27, oh0_28, oh0_29, oh0_30, oh0_31, oh0_32, .ref h0_lineDate, .ref h0_lineAge, oh0_35, oh0_36, oh0_37])), (h0_lineDate, .inl (cy 2, 8, .inl v_lineDate)), (h0_lineAge, .inl (cy 2, 8, .inl v_lineAge))] r := by
  unfold f9_isOne at hM
  refine ct_oi (cc := cX9_isOne) (maxL := 5) (ty := .boolean) (by decide +kernel) rfl (Nat.le_of_ble_eq_true rfl) (lv0 := [(0, .ref h0), (1, .int p1), (2, .int p2)]) rfl ?_
  intro p e s m args below meth c A Q ls hx hb hts hown hml hK hP hD hS hA hret hl
  have hown : s.vm.findClass RX9 = some m.cls := hown
  have k79 := hts (.fieldLink RX9 79 "CaveYearsModel" "lineDate" "[I") (List.mem_of_getElem? (i := 1) (by decide +kernel))
  have iX9 := (fun w h => (List.mem_cons_of_mem _ (List.mem_append_right _ h)) : ∀ w ∈ wsX90, w ∈ wsX9_isOne)
  have k82 := hts (.fieldLink RX9 82 "CaveYearsModel" "lineAge" "[I") (List.mem_of_getElem? (i := 2) (by decide +kernel))
  refine lv_aload_n hx hb dX9_isOne_0 rfl (lv_at hl 0 rfl) ?_
  refine va_get (D := D) (ci := 9) (v := .ref h0_lineDate) (C := RX9) (T := TX9) (N := 38) hx hb hts iX9 hown hK hP 0 rfl rfl 33 (by decide) k79 (fun _ h9 => h9) rfl dX9_isOne_1 ?_
  refine lv_iload_n hx hb dX9_isOne_4 rfl (lv_at hl 1 rfl) ?_
  obtain ⟨h5, hM⟩ := gi_some hM
  refine va_iald hx hb hK hP 1 2 rfl rfl h5 dX9_isOne_5 ?_
  refine lv_aload_n hx hb dX9_isOne_6 rfl (lv_at hl 0 rfl) ?_
  refine va_get (D := D) (ci := 9) (v := .ref h0_lineDate) (C := RX9) (T := TX9) (N := 38) hx hb hts iX9 hown hK hP 0 rfl rfl 33 (by decide) k79 (fun _ h9 => h9) rfl dX9_isOne_7 ?_
  refine lv_iload_n hx hb dX9_isOne_10 rfl (lv_at hl 2 rfl) ?_
  obtain ⟨h11, hM⟩ := gi_some hM
  refine va_iald hx hb hK hP 1 2 rfl rfl h11 dX9_isOne_11 ?_
  refine lv_icmp_gt (tgt := 19) hx hb dX9_isOne_12 (by decide) (fun c12 => ?_) (fun c12 => ?_)
  · have hM := g_pos c12 hM
    refine lv_iload_n hx hb dX9_isOne_19 rfl (lv_at hl 2 rfl) ?_
    refine lv_istore_n (lv' := [(3, .int p2), (0, .ref h0), (1, .int p1), (2, .int p2)]) hx hb dX9_isOne_20 rfl hl (by decide) rfl (fun ls hl => ?_)
    refine lv_iload_n hx hb dX9_isOne_21 rfl (lv_at hl 0 rfl) ?_
    refine lv_iload_n hx hb dX9_isOne_22 rfl (lv_at hl 2 rfl) ?_
    have K31 : ∀ (s0_31 : Int32) (H : Heap) (locs : List Loc) (ls : Array Slot), f9_isOne_J31 N p2 v_lineDate v_lineAge s0_31 = some r → va_P D vwCl [(h0, .inr (9, [oh0_0, oh0_1, oh0_2, oh0_3, oh0_4, oh0_5, oh0_6, oh0_7, oh0_8, oh0_9, oh0_10, oh0_11, oh0_12, oh0_13, oh0_14, oh0_15, oh0_16, oh0_17, oh0_18, oh0_19, oh0_20, oh0_21, oh0_22, oh0_23, oh0_24, oh0_25, oh0_26, oh0_27, oh0_28, oh0_29, oh0_30, oh0_31, oh0_32, .ref h0_lineDate, .ref h0_lineAge, oh0_35, oh0_36, oh0_37])), (h0_lineDate, .inl (cy 2, 8, .inl v_lineDate)), (h0_lineAge, .inl (cy 2, 8, .inl v_lineAge))] H → va_D A [(h0, .inr (9, [oh0_0, oh0_1, oh0_2, oh0_3, oh0_4, oh0_5, oh0_6, oh0_7, oh0_8, oh0_9, oh0_10, oh0_11, oh0_12, oh0_13, oh0_14, oh0_15, oh0_16, oh0_17, oh0_18, oh0_19, oh0_20, oh0_21, oh0_22, oh0_23, oh0_24, oh0_25, oh0_26, oh0_27, oh0_28, oh0_29, oh0_30, oh0_31, oh0_32, .ref h0_lineDate, .ref h0_lineAge, oh0_35, oh0_36, oh0_37])), (h0_lineDate, .inl (cy 2, 8, .inl v_lineDate)), (h0_lineAge, .inl (cy 2, 8, .inl v_lineAge))] → va_S A s.heap H locs → lv_has ls 5 [(0, .ref h0), (3, .int p2)] → W p l e r9_isOne s m args below meth c H locs 0 0 Q (F0 m 31 ls [.int s0_31]) := by
      intro s0_31 H locs ls hM hP hD hS hl
      unfold f9_isOne_J31 at hM
      refine lv_istore (lv' := [(4, .int s0_31), (0, .ref h0), (3, .int p2)]) hx hb dX9_isOne_31 hl (by decide) rfl (fun ls hl => ?_)
      refine lv_aload_n hx hb dX9_isOne_33 rfl (lv_at hl 1 rfl) ?_
      refine va_get (D := D) (ci := 9) (v := .ref h0_lineAge) (C := RX9) (T := TX9) (N := 38) hx hb hts iX9 hown hK hP 0 rfl rfl 34 (by decide) k82 (fun _ h9 => h9) rfl dX9_isOne_34 ?_
      refine lv_iload hx hb dX9_isOne_37 (lv_at hl 0 rfl) ?_
      obtain ⟨h39, hM⟩ := gi_some hM
      refine va_iald hx hb hK hP 2 2 rfl rfl h39 dX9_isOne_39 ?_
      refine lv_aload_n hx hb dX9_isOne_40 rfl (lv_at hl 1 rfl) ?_
      refine va_get (D := D) (ci := 9) (v := .ref h0_lineAge) (C := RX9) (T := TX9) (N := 38) hx hb hts iX9 hown hK hP 0 rfl rfl 34 (by decide) k82 (fun _ h9 => h9) rfl dX9_isOne_41 ?_
      refine lv_iload_n hx hb dX9_isOne_44 rfl (lv_at hl 2 rfl) ?_
      obtain ⟨h45, hM⟩ := gi_some hM
      refine va_iald hx hb hK hP 2 2 rfl rfl h45 dX9_isOne_45 ?_
      refine lv_isub hx hb dX9_isOne_46 ?_
      refine lv_iconst (v := 0) hx hb dX9_isOne_47 (by decide) ?_
      refine lv_aload_n hx hb dX9_isOne_48 rfl (lv_at hl 1 rfl) ?_
      refine va_get (D := D) (ci := 9) (v := .ref h0_lineDate) (C := RX9) (T := TX9) (N := 38) hx hb hts iX9 hown hK hP 0 rfl rfl 33 (by decide) k79 (fun _ h9 => h9) rfl dX9_isOne_49 ?_
      refine lv_iload hx hb dX9_isOne_52 (lv_at hl 0 rfl) ?_
      obtain ⟨h54, hM⟩ := gi_some hM
      refine va_iald hx hb hK hP 1 2 rfl rfl h54 dX9_isOne_54 ?_
      refine lv_aload_n hx hb dX9_isOne_55 rfl (lv_at hl 1 rfl) ?_
      refine va_get (D := D) (ci := 9) (v := .ref h0_lineDate) (C := RX9) (T := TX9) (N := 38) hx hb hts iX9 hown hK hP 0 rfl rfl 33 (by decide) k79 (fun _ h9 => h9) rfl dX9_isOne_56 ?_
      refine lv_iload_n hx hb dX9_isOne_59 rfl (lv_at hl 2 rfl) ?_
      obtain ⟨h60, hM⟩ := gi_some hM
      refine va_iald hx hb hK hP 1 2 rfl rfl h60 dX9_isOne_60 ?_
      refine lv_isub hx hb dX9_isOne_61 ?_
      obtain ⟨r62, hc62, hM⟩ := ob1_some hM
      refine cl_si (As := [.int ((v_lineAge s0_31.toNatClampNeg) - (v_lineAge p2.toNatClampNeg)), .int (0 : Int32), .int ((v_lineDate s0_31.toNatClampNeg) - (v_lineDate p2.toNatClampNeg))]) (rest := []) (wr := [(h0, .inr (9, [oh0_0, oh0_1, oh0_2, oh0_3, oh0_4, oh0_5, oh0_6, oh0_7, oh0_8, oh0_9, oh0_10, oh0_11, oh0_12, oh0_13, oh0_14, oh0_15, oh0_16, oh0_17, oh0_18, oh0_19, oh0_20, oh0_21, oh0_22, oh0_23, oh0_24, oh0_25, oh0_26, oh0_27, oh0_28, oh0_29, oh0_30, oh0_31, oh0_32, .ref h0_lineDate, .ref h0_lineAge, oh0_35, oh0_36, oh0_37])), (h0_lineDate, .inl (cy 2, 8, .inl v_lineDate)), (h0_lineAge, .inl (cy 2, 8, .inl v_lineAge))]) (ws2 := [(h0, .inr (9, [oh0_0, oh0_1, oh0_2, oh0_3, oh0_4, oh0_5, oh0_6, oh0_7, oh0_8, oh0_9, oh0_10, oh0_11, oh0_12, oh0_13, oh0_14, oh0_15, oh0_16, oh0_17, oh0_18, oh0_19, oh0_20, oh0_21, oh0_22, oh0_23, oh0_24, oh0_25, oh0_26, oh0_27, oh0_28, oh0_29, oh0_30, oh0_31, oh0_32, .ref h0_lineDate, .ref h0_lineAge, oh0_35, oh0_36, oh0_37])), (h0_lineDate, .inl (cy 2, 8, .inl v_lineDate)), (h0_lineAge, .inl (cy 2, 8, .inl v_lineAge))]) (isC := []) (isR := [0, 1, 2]) (pm := [0, 1, 2]) hx hb hml hown hts (c9_in l D cy N ((v_lineAge s0_31.toNatClampNeg) - (v_lineAge p2.toNatClampNeg)) (0 : Int32) ((v_lineDate s0_31.toNatClampNeg) - (v_lineDate p2.toNatClampNeg)) r62 hc62) (va_cwS 3 hts gX9_isOne_X9_in rfl rfl rfl (by decide +kernel) ⟨Nat.le_of_ble_eq_true rfl, Nat.le_of_ble_eq_true rfl⟩) hK hP hD hS hA rfl rfl rfl (by decide) rfl rfl rfl hl.1 (Nat.le_of_ble_eq_true rfl) dX9_isOne_62 ⟨Nat.zero_le _, Nat.zero_le _⟩ rfl rfl (fun H locs hP hD hS => ?_)
      obtain ⟨hz65, hM⟩ := gb_some hM
      obtain rfl := si1 hM
      exact hret _ _ _ _ _ dX9_isOne_65 rfl hz65 hP hD hS
    refine lv_icmp_ne (tgt := 30) hx hb dX9_isOne_23 (by decide) (fun c23 => ?_) (fun c23 => ?_)
    · have hM := g_neg c23 hM
      refine lv_iload_n hx hb dX9_isOne_30 rfl (lv_at hl 2 rfl) ?_
      exact K31 p1 _ _ _ hM hP hD hS (lv_sub hl [1, 0] rfl)
    · have hM := g_pos c23 hM
      refine lv_iload_n hx hb dX9_isOne_26 rfl (lv_at hl 3 rfl) ?_
      refine lv_goto (tgt := 31) hx hb dX9_isOne_27 (by decide) ?_
      exact K31 p2 _ _ _ hM hP hD hS (lv_sub hl [1, 0] rfl)
  · have hM := g_neg c12 hM
    refine lv_iload_n hx hb dX9_isOne_15 rfl (lv_at hl 1 rfl) ?_
    refine lv_goto (tgt := 20) hx hb dX9_isOne_16 (by decide) ?_
    refine lv_istore_n (lv' := [(3, .int p1), (0, .ref h0), (1, .int p1), (2, .int p2)]) hx hb dX9_isOne_20 rfl hl (by decide) rfl (fun ls hl => ?_)
    refine lv_iload_n hx hb dX9_isOne_21 rfl (lv_at hl 0 rfl) ?_
    refine lv_iload_n hx hb dX9_isOne_22 rfl (lv_at hl 2 rfl) ?_
    have K31 : ∀ (s0_31 : Int32) (H : Heap) (locs : List Loc) (ls : Array Slot), f9_isOne_J31b N p1 v_lineDate v_lineAge s0_31 = some r → va_P D vwCl [(h0, .inr (9, [oh0_0, oh0_1, oh0_2, oh0_3, oh0_4, oh0_5, oh0_6, oh0_7, oh0_8, oh0_9, oh0_10, oh0_11, oh0_12, oh0_13, oh0_14, oh0_15, oh0_16, oh0_17, oh0_18, oh0_19, oh0_20, oh0_21, oh0_22, oh0_23, oh0_24, oh0_25, oh0_26, oh0_27, oh0_28, oh0_29, oh0_30, oh0_31, oh0_32, .ref h0_lineDate, .ref h0_lineAge, oh0_35, oh0_36, oh0_37])), (h0_lineDate, .inl (cy 2, 8, .inl v_lineDate)), (h0_lineAge, .inl (cy 2, 8, .inl v_lineAge))] H → va_D A [(h0, .inr (9, [oh0_0, oh0_1, oh0_2, oh0_3, oh0_4, oh0_5, oh0_6, oh0_7, oh0_8, oh0_9, oh0_10, oh0_11, oh0_12, oh0_13, oh0_14, oh0_15, oh0_16, oh0_17, oh0_18, oh0_19, oh0_20, oh0_21, oh0_22, oh0_23, oh0_24, oh0_25, oh0_26, oh0_27, oh0_28, oh0_29, oh0_30, oh0_31, oh0_32, .ref h0_lineDate, .ref h0_lineAge, oh0_35, oh0_36, oh0_37])), (h0_lineDate, .inl (cy 2, 8, .inl v_lineDate)), (h0_lineAge, .inl (cy 2, 8, .inl v_lineAge))] → va_S A s.heap H locs → lv_has ls 5 [(0, .ref h0), (3, .int p1)] → W p l e r9_isOne s m args below meth c H locs 0 0 Q (F0 m 31 ls [.int s0_31]) := by
      intro s0_31 H locs ls hM hP hD hS hl
      unfold f9_isOne_J31b at hM
      refine lv_istore (lv' := [(4, .int s0_31), (0, .ref h0), (3, .int p1)]) hx hb dX9_isOne_31 hl (by decide) rfl (fun ls hl => ?_)
      refine lv_aload_n hx hb dX9_isOne_33 rfl (lv_at hl 1 rfl) ?_
      refine va_get (D := D) (ci := 9) (v := .ref h0_lineAge) (C := RX9) (T := TX9) (N := 38) hx hb hts iX9 hown hK hP 0 rfl rfl 34 (by decide) k82 (fun _ h9 => h9) rfl dX9_isOne_34 ?_
      refine lv_iload hx hb dX9_isOne_37 (lv_at hl 0 rfl) ?_
      obtain ⟨h39, hM⟩ := gi_some hM
      refine va_iald hx hb hK hP 2 2 rfl rfl h39 dX9_isOne_39 ?_
      refine lv_aload_n hx hb dX9_isOne_40 rfl (lv_at hl 1 rfl) ?_
      refine va_get (D := D) (ci := 9) (v := .ref h0_lineAge) (C := RX9) (T := TX9) (N := 38) hx hb hts iX9 hown hK hP 0 rfl rfl 34 (by decide) k82 (fun _ h9 => h9) rfl dX9_isOne_41 ?_
      refine lv_iload_n hx hb dX9_isOne_44 rfl (lv_at hl 2 rfl) ?_
      obtain ⟨h45, hM⟩ := gi_some hM
      refine va_iald hx hb hK hP 2 2 rfl rfl h45 dX9_isOne_45 ?_
      refine lv_isub hx hb dX9_isOne_46 ?_
      refine lv_iconst (v := 0) hx hb dX9_isOne_47 (by decide) ?_
      refine lv_aload_n hx hb dX9_isOne_48 rfl (lv_at hl 1 rfl) ?_
      refine va_get (D := D) (ci := 9) (v := .ref h0_lineDate) (C := RX9) (T := TX9) (N := 38) hx hb hts iX9 hown hK hP 0 rfl rfl 33 (by decide) k79 (fun _ h9 => h9) rfl dX9_isOne_49 ?_
      refine lv_iload hx hb dX9_isOne_52 (lv_at hl 0 rfl) ?_
      obtain ⟨h54, hM⟩ := gi_some hM
      refine va_iald hx hb hK hP 1 2 rfl rfl h54 dX9_isOne_54 ?_
      refine lv_aload_n hx hb dX9_isOne_55 rfl (lv_at hl 1 rfl) ?_
      refine va_get (D := D) (ci := 9) (v := .ref h0_lineDate) (C := RX9) (T := TX9) (N := 38) hx hb hts iX9 hown hK hP 0 rfl rfl 33 (by decide) k79 (fun _ h9 => h9) rfl dX9_isOne_56 ?_
      refine lv_iload_n hx hb dX9_isOne_59 rfl (lv_at hl 2 rfl) ?_
      obtain ⟨h60, hM⟩ := gi_some hM
      refine va_iald hx hb hK hP 1 2 rfl rfl h60 dX9_isOne_60 ?_
      refine lv_isub hx hb dX9_isOne_61 ?_
      obtain ⟨r62, hc62, hM⟩ := ob1_some hM
      refine cl_si (As := [.int ((v_lineAge s0_31.toNatClampNeg) - (v_lineAge p1.toNatClampNeg)), .int (0 : Int32), .int ((v_lineDate s0_31.toNatClampNeg) - (v_lineDate p1.toNatClampNeg))]) (rest := []) (wr := [(h0, .inr (9, [oh0_0, oh0_1, oh0_2, oh0_3, oh0_4, oh0_5, oh0_6, oh0_7, oh0_8, oh0_9, oh0_10, oh0_11, oh0_12, oh0_13, oh0_14, oh0_15, oh0_16, oh0_17, oh0_18, oh0_19, oh0_20, oh0_21, oh0_22, oh0_23, oh0_24, oh0_25, oh0_26, oh0_27, oh0_28, oh0_29, oh0_30, oh0_31, oh0_32, .ref h0_lineDate, .ref h0_lineAge, oh0_35, oh0_36, oh0_37])), (h0_lineDate, .inl (cy 2, 8, .inl v_lineDate)), (h0_lineAge, .inl (cy 2, 8, .inl v_lineAge))]) (ws2 := [(h0, .inr (9, [oh0_0, oh0_1, oh0_2, oh0_3, oh0_4, oh0_5, oh0_6, oh0_7, oh0_8, oh0_9, oh0_10, oh0_11, oh0_12, oh0_13, oh0_14, oh0_15, oh0_16, oh0_17, oh0_18, oh0_19, oh0_20, oh0_21, oh0_22, oh0_23, oh0_24, oh0_25, oh0_26, oh0_27, oh0_28, oh0_29, oh0_30, oh0_31, oh0_32, .ref h0_lineDate, .ref h0_lineAge, oh0_35, oh0_36, oh0_37])), (h0_lineDate, .inl (cy 2, 8, .inl v_lineDate)), (h0_lineAge, .inl (cy 2, 8, .inl v_lineAge))]) (isC := []) (isR := [0, 1, 2]) (pm := [0, 1, 2]) hx hb hml hown hts (c9_in l D cy N ((v_lineAge s0_31.toNatClampNeg) - (v_lineAge p1.toNatClampNeg)) (0 : Int32) ((v_lineDate s0_31.toNatClampNeg) - (v_lineDate p1.toNatClampNeg)) r62 hc62) (va_cwS 3 hts gX9_isOne_X9_in rfl rfl rfl (by decide +kernel) ⟨Nat.le_of_ble_eq_true rfl, Nat.le_of_ble_eq_true rfl⟩) hK hP hD hS hA rfl rfl rfl (by decide) rfl rfl rfl hl.1 (Nat.le_of_ble_eq_true rfl) dX9_isOne_62 ⟨Nat.zero_le _, Nat.zero_le _⟩ rfl rfl (fun H locs hP hD hS => ?_)
      obtain ⟨hz65, hM⟩ := gb_some hM
      obtain rfl := si1 hM
      exact hret _ _ _ _ _ dX9_isOne_65 rfl hz65 hP hD hS
    refine lv_icmp_ne (tgt := 30) hx hb dX9_isOne_23 (by decide) (fun c23 => ?_) (fun c23 => ?_)
    · have hM := g_neg c23 hM
      refine lv_iload_n hx hb dX9_isOne_30 rfl (lv_at hl 2 rfl) ?_
      exact K31 p1 _ _ _ hM hP hD hS (lv_sub hl [1, 0] rfl)
    · have hM := g_pos c23 hM
      refine lv_iload_n hx hb dX9_isOne_26 rfl (lv_at hl 3 rfl) ?_
      refine lv_goto (tgt := 31) hx hb dX9_isOne_27 (by decide) ?_
      exact K31 p2 _ _ _ hM hP hD hS (lv_sub hl [1, 0] rfl)

-- ===== X9_canBeOne canBeOne (II)I =====
abbrev r9_canBeOne : Room := { frames := 2, cells := 0, slots := 0, locals := 46 }
def f9_canBeOne (N : Nat) (p1 : Int32) (p2 : Int32) (v_lines : Int32) (v_lineDate : Nat → Int32) (v_lineAge : Nat → Int32) : Option Int32 :=
  ob1 (f9_in N p1 (0 : Int32) (v_lines - (1 : Int32))) fun r8 => if r8 = (0 : Int32) then (some (-1000000002 : Int32)) else (ob1 (f9_in N p2 (0 : Int32) (v_lines - (1 : Int32))) fun r22 => if r22 = (0 : Int32) then (some (-1000000002 : Int32)) else (if p1 = p2 then (some (-1000000002 : Int32)) else (ob1 (f9_isOne N p1 p2 v_lineDate v_lineAge) fun r39 => if r39 = (0 : Int32) then (some (0 : Int32)) else (some (1 : Int32)))))
set_option maxHeartbeats 4000000 in
set_option maxRecDepth 100000 in
theorem c9_canBeOne (l : Launch) (D : va_G) (cy : Nat → ClassId) (N : Nat) (h0 h0_lineDate h0_lineAge : Nat) (oh0_0 oh0_1 oh0_2 oh0_3 oh0_4 oh0_5 oh0_6 oh0_7 oh0_8 oh0_9 oh0_10 oh0_11 oh0_12 oh0_13 oh0_14 oh0_15 oh0_16 oh0_17 oh0_18 oh0_19 oh0_20 oh0_21 oh0_22 oh0_23 oh0_24 oh0_25 oh0_26 oh0_27 oh0_28 oh0_29 oh0_30 oh0_31 oh0_32 oh0_36 oh0_37 : Value) (p1 : Int32) (p2 : Int32) (v_lines : Int32) (v_lineDate : Nat → Int32) (v_lineAge : Nat → Int32) (r : Int32) (hM : f9_canBeOne N p1 p2 v_lines v_lineDate v_lineAge = some r) (sz : Nat) : CTi l yX9_canBeOne wsX9_canBeOne r9_canBeOne [.ref h0, .int p1, .int p2] D cy sz [(h0, .inr (9, [oh0_0, oh0_1, oh0_2, oh0_3, oh0_4, oh0_5, oh0_6, oh0_7, oh0_8, oh0_9, oh0_10, oh0_11, oh0_12, oh0_13, oh0_14, oh0_15, oh0_16, oh0_17, oh0_18, oh0_19, oh0_20, oh0_21, oh0_22, oh0_23, oh0_24, oh0_25, oh0_26, oh0_27, oh0_28, oh0_29, oh0_30, oh0_31, oh0_32, .ref h0_lineDate, .ref h0_lineAge, .int v_lines, oh0_36, oh0_37])), (h0_lineDate, .inl (cy 2, 8, .inl v_lineDate)), (h0_lineAge, .inl (cy 2, 8, .inl v_lineAge))] [(h0, .inr (9, [oh0_0, oh0_1, oh0_2, oh0_3, oh0_4, oh0_5, oh0_6, oh0_7, oh0_8, oh0_9, oh0_10, oh0_11, oh0_12, oh0_13, oh0_14, oh0_15, oh0_16, oh0_17, oh0_18, oh0_19, oh0_20, oh0_21, oh0_22, oh0_23, oh0_24, oh0_25, oh0_26, oh0_27, oh0_28, oh0_29, oh0_30, oh0_31, oh0_32, .ref h0_lineDate, .ref h0_lineAge, .int v_lines, oh0_36, oh0_37])), (h0_lineDate, .inl (cy 2, 8, .inl v_lineDate)), (h0_lineAge, .inl (cy 2, 8, .inl v_lineAge))] r := by
  unfold f9_canBeOne at hM
  refine ct_oi (cc := cX9_canBeOne) (maxL := 3) (ty := .int) (by decide +kernel) rfl (Nat.le_of_ble_eq_true rfl) (lv0 := [(0, .ref h0), (1, .int p1), (2, .int p2)]) rfl ?_
  intro p e s m args below meth c A Q ls hx hb hts hown hml hK hP hD hS hA hret hl
  have hown : s.vm.findClass RX9 = some m.cls := hown
  have k165 := hts (.fieldLink RX9 165 "CaveYearsModel" "lines" "I") (List.mem_of_getElem? (i := 1) (by decide +kernel))
  have iX9 := (fun w h => (List.mem_cons_of_mem _ (List.mem_append_right _ h)) : ∀ w ∈ wsX90, w ∈ wsX9_canBeOne)
  have k99 := hts (.constant RX9 99 (-1000000002)) (List.mem_of_getElem? (i := 2) (by decide +kernel))
  refine lv_iload_n hx hb dX9_canBeOne_0 rfl (lv_at hl 1 rfl) ?_
  refine lv_iconst (v := 0) hx hb dX9_canBeOne_1 (by decide) ?_
  refine lv_aload_n hx hb dX9_canBeOne_2 rfl (lv_at hl 0 rfl) ?_
  refine va_get (D := D) (ci := 9) (v := .int v_lines) (C := RX9) (T := TX9) (N := 38) hx hb hts iX9 hown hK hP 0 rfl rfl 35 (by decide) k165 (fun _ h9 => h9) rfl dX9_canBeOne_3 ?_
  refine lv_iconst (v := 1) hx hb dX9_canBeOne_6 (by decide) ?_
  refine lv_isub hx hb dX9_canBeOne_7 ?_
  obtain ⟨r8, hc8, hM⟩ := ob1_some hM
  refine cl_si (As := [.int p1, .int (0 : Int32), .int (v_lines - (1 : Int32))]) (rest := []) (wr := [(h0, .inr (9, [oh0_0, oh0_1, oh0_2, oh0_3, oh0_4, oh0_5, oh0_6, oh0_7, oh0_8, oh0_9, oh0_10, oh0_11, oh0_12, oh0_13, oh0_14, oh0_15, oh0_16, oh0_17, oh0_18, oh0_19, oh0_20, oh0_21, oh0_22, oh0_23, oh0_24, oh0_25, oh0_26, oh0_27, oh0_28, oh0_29, oh0_30, oh0_31, oh0_32, .ref h0_lineDate, .ref h0_lineAge, .int v_lines, oh0_36, oh0_37])), (h0_lineDate, .inl (cy 2, 8, .inl v_lineDate)), (h0_lineAge, .inl (cy 2, 8, .inl v_lineAge))]) (ws2 := [(h0, .inr (9, [oh0_0, oh0_1, oh0_2, oh0_3, oh0_4, oh0_5, oh0_6, oh0_7, oh0_8, oh0_9, oh0_10, oh0_11, oh0_12, oh0_13, oh0_14, oh0_15, oh0_16, oh0_17, oh0_18, oh0_19, oh0_20, oh0_21, oh0_22, oh0_23, oh0_24, oh0_25, oh0_26, oh0_27, oh0_28, oh0_29, oh0_30, oh0_31, oh0_32, .ref h0_lineDate, .ref h0_lineAge, .int v_lines, oh0_36, oh0_37])), (h0_lineDate, .inl (cy 2, 8, .inl v_lineDate)), (h0_lineAge, .inl (cy 2, 8, .inl v_lineAge))]) (isC := []) (isR := [0, 1, 2]) (pm := [0, 1, 2]) hx hb hml hown hts (c9_in l D cy N p1 (0 : Int32) (v_lines - (1 : Int32)) r8 hc8) (va_cwS 3 hts gX9_canBeOne_X9_in rfl rfl rfl (by decide +kernel) ⟨Nat.le_of_ble_eq_true rfl, Nat.le_of_ble_eq_true rfl⟩) hK hP hD hS hA rfl rfl rfl (by decide) rfl rfl rfl hl.1 (Nat.le_of_ble_eq_true rfl) dX9_canBeOne_8 ⟨Nat.zero_le _, Nat.zero_le _⟩ rfl rfl (fun H locs hP hD hS => ?_)
  refine lv_if_eq (tgt := 33) hx hb dX9_canBeOne_11 (by decide) (fun c11 => ?_) (fun c11 => ?_)
  · have hM := g_pos c11 hM
    refine lv_ldc (v := -1000000002) hx hb hown k99 dX9_canBeOne_33 ?_
    obtain rfl := si1 hM
    exact hret _ _ _ _ _ dX9_canBeOne_35 rfl rfl hP hD hS
  · have hM := g_neg c11 hM
    refine lv_iload_n hx hb dX9_canBeOne_14 rfl (lv_at hl 2 rfl) ?_
    refine lv_iconst (v := 0) hx hb dX9_canBeOne_15 (by decide) ?_
    refine lv_aload_n hx hb dX9_canBeOne_16 rfl (lv_at hl 0 rfl) ?_
    refine va_get (D := D) (ci := 9) (v := .int v_lines) (C := RX9) (T := TX9) (N := 38) hx hb hts iX9 hown hK hP 0 rfl rfl 35 (by decide) k165 (fun _ h9 => h9) rfl dX9_canBeOne_17 ?_
    refine lv_iconst (v := 1) hx hb dX9_canBeOne_20 (by decide) ?_
    refine lv_isub hx hb dX9_canBeOne_21 ?_
    obtain ⟨r22, hc22, hM⟩ := ob1_some hM
    refine cl_si (As := [.int p2, .int (0 : Int32), .int (v_lines - (1 : Int32))]) (rest := []) (wr := [(h0, .inr (9, [oh0_0, oh0_1, oh0_2, oh0_3, oh0_4, oh0_5, oh0_6, oh0_7, oh0_8, oh0_9, oh0_10, oh0_11, oh0_12, oh0_13, oh0_14, oh0_15, oh0_16, oh0_17, oh0_18, oh0_19, oh0_20, oh0_21, oh0_22, oh0_23, oh0_24, oh0_25, oh0_26, oh0_27, oh0_28, oh0_29, oh0_30, oh0_31, oh0_32, .ref h0_lineDate, .ref h0_lineAge, .int v_lines, oh0_36, oh0_37])), (h0_lineDate, .inl (cy 2, 8, .inl v_lineDate)), (h0_lineAge, .inl (cy 2, 8, .inl v_lineAge))]) (ws2 := [(h0, .inr (9, [oh0_0, oh0_1, oh0_2, oh0_3, oh0_4, oh0_5, oh0_6, oh0_7, oh0_8, oh0_9, oh0_10, oh0_11, oh0_12, oh0_13, oh0_14, oh0_15, oh0_16, oh0_17, oh0_18, oh0_19, oh0_20, oh0_21, oh0_22, oh0_23, oh0_24, oh0_25, oh0_26, oh0_27, oh0_28, oh0_29, oh0_30, oh0_31, oh0_32, .ref h0_lineDate, .ref h0_lineAge, .int v_lines, oh0_36, oh0_37])), (h0_lineDate, .inl (cy 2, 8, .inl v_lineDate)), (h0_lineAge, .inl (cy 2, 8, .inl v_lineAge))]) (isC := []) (isR := [0, 1, 2]) (pm := [0, 1, 2]) hx hb hml hown hts (c9_in l D cy N p2 (0 : Int32) (v_lines - (1 : Int32)) r22 hc22) (va_cwS 3 hts gX9_canBeOne_X9_in rfl rfl rfl (by decide +kernel) ⟨Nat.le_of_ble_eq_true rfl, Nat.le_of_ble_eq_true rfl⟩) hK hP hD hS hA rfl rfl rfl (by decide) rfl rfl rfl hl.1 (Nat.le_of_ble_eq_true rfl) dX9_canBeOne_22 ⟨Nat.zero_le _, Nat.zero_le _⟩ rfl rfl (fun H locs hP hD hS => ?_)
    refine lv_if_eq (tgt := 33) hx hb dX9_canBeOne_25 (by decide) (fun c25 => ?_) (fun c25 => ?_)
    · have hM := g_pos c25 hM
      refine lv_ldc (v := -1000000002) hx hb hown k99 dX9_canBeOne_33 ?_
      obtain rfl := si1 hM
      exact hret _ _ _ _ _ dX9_canBeOne_35 rfl rfl hP hD hS
    · have hM := g_neg c25 hM
      refine lv_iload_n hx hb dX9_canBeOne_28 rfl (lv_at hl 1 rfl) ?_
      refine lv_iload_n hx hb dX9_canBeOne_29 rfl (lv_at hl 2 rfl) ?_
      refine lv_icmp_ne (tgt := 36) hx hb dX9_canBeOne_30 (by decide) (fun c30 => ?_) (fun c30 => ?_)
      · have hM := g_neg c30 hM
        refine lv_aload_n hx hb dX9_canBeOne_36 rfl (lv_at hl 0 rfl) ?_
        refine lv_iload_n hx hb dX9_canBeOne_37 rfl (lv_at hl 1 rfl) ?_
        refine lv_iload_n hx hb dX9_canBeOne_38 rfl (lv_at hl 2 rfl) ?_
        obtain ⟨r39, hc39, hM⟩ := ob1_some hM
        refine cl_vi (As := [.int p1, .int p2]) (rest := []) (ci := 9) (q0 := 0) (wr := []) (ws2 := [(h0, .inr (9, [oh0_0, oh0_1, oh0_2, oh0_3, oh0_4, oh0_5, oh0_6, oh0_7, oh0_8, oh0_9, oh0_10, oh0_11, oh0_12, oh0_13, oh0_14, oh0_15, oh0_16, oh0_17, oh0_18, oh0_19, oh0_20, oh0_21, oh0_22, oh0_23, oh0_24, oh0_25, oh0_26, oh0_27, oh0_28, oh0_29, oh0_30, oh0_31, oh0_32, .ref h0_lineDate, .ref h0_lineAge, .int v_lines, oh0_36, oh0_37])), (h0_lineDate, .inl (cy 2, 8, .inl v_lineDate)), (h0_lineAge, .inl (cy 2, 8, .inl v_lineAge))]) (isC := [0, 1, 2]) (isR := []) (pm := [0, 1, 2]) hx hb hml hown hts (c9_isOne l D cy N h0 h0_lineDate h0_lineAge oh0_0 oh0_1 oh0_2 oh0_3 oh0_4 oh0_5 oh0_6 oh0_7 oh0_8 oh0_9 oh0_10 oh0_11 oh0_12 oh0_13 oh0_14 oh0_15 oh0_16 oh0_17 oh0_18 oh0_19 oh0_20 oh0_21 oh0_22 oh0_23 oh0_24 oh0_25 oh0_26 oh0_27 oh0_28 oh0_29 oh0_30 oh0_31 oh0_32 (.int v_lines) oh0_36 oh0_37 p1 p2 v_lineDate v_lineAge r39 hc39) (cwV 2 hts gX9_canBeOne_X9_isOne rfl rfl rfl (by decide +kernel) ⟨Nat.le_of_ble_eq_true rfl, Nat.le_of_ble_eq_true rfl⟩) hK hP hD hS hA rfl rfl rfl rfl rfl (by decide) rfl rfl rfl hl.1 (Nat.le_of_ble_eq_true rfl) dX9_canBeOne_39 ⟨Nat.zero_le _, Nat.zero_le _⟩ rfl rfl (fun H locs hP hD hS => ?_)
        refine lv_if_eq (tgt := 49) hx hb dX9_canBeOne_42 (by decide) (fun c42 => ?_) (fun c42 => ?_)
        · have hM := g_pos c42 hM
          refine lv_iconst (v := 0) hx hb dX9_canBeOne_49 (by decide) ?_
          obtain rfl := si1 hM
          exact hret _ _ _ _ _ dX9_canBeOne_50 rfl rfl hP hD hS
        · have hM := g_neg c42 hM
          refine lv_iconst (v := 1) hx hb dX9_canBeOne_45 (by decide) ?_
          refine lv_goto (tgt := 50) hx hb dX9_canBeOne_46 (by decide) ?_
          obtain rfl := si1 hM
          exact hret _ _ _ _ _ dX9_canBeOne_50 rfl rfl hP hD hS
      · have hM := g_pos c30 hM
        refine lv_ldc (v := -1000000002) hx hb hown k99 dX9_canBeOne_33 ?_
        obtain rfl := si1 hM
        exact hret _ _ _ _ _ dX9_canBeOne_35 rfl rfl hP hD hS
