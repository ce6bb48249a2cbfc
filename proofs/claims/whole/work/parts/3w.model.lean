-- ===== X9_feed feed (IJ)I =====
abbrev r9_feed : Room := { frames := 1, cells := 0, slots := 0, locals := 22 }
def f9_feed_L33 (N : Nat) (p2 : Int64) : Nat → Int32 → Int32 → (Nat → Int32) → Option (Int32 × (Nat → Int32))
  | 0, _, _, _ => none
  | n + 1, x4_33, v_typed_33, v_text_33 => if x4_33 < (0 : Int32) then (some (v_typed_33, v_text_33)) else (gi v_typed_33 500 ((f9_feed_L33 N p2 n) (x4_33 + (-1 : Int32)) (v_typed_33 + (1 : Int32)) (upd v_text_33 v_typed_33.toNatClampNeg (vp_nar .byte ((((p2 >>> (((8 : Int32) * x4_33).toInt64 &&& 63)) &&& (255 : Int64)).toInt32).toInt8.toInt32)))))
def f9_feed (N : Nat) (p1 : Int32) (p2 : Int64) (v_typed : Int32) (v_text : Nat → Int32) : Option (Int32 × Int32 × (Nat → Int32)) :=
  ob1 (f9_in N p1 (1 : Int32) (8 : Int32)) fun r4 => if r4 = (0 : Int32) then (some ((-1000000002 : Int32), v_typed, v_text)) else (if (v_typed + p1) ≤ (500 : Int32) then (ob2 (f9_feed_L33 N p2 N (p1 - (1 : Int32)) v_typed v_text) fun v_typed_e33 v_text_e33 => some (v_typed_e33, v_typed_e33, v_text_e33)) else (some ((-1000000004 : Int32), v_typed, v_text)))
set_option maxHeartbeats 4000000 in
set_option maxRecDepth 100000 in
theorem c9_feed (l : Launch) (D : va_G) (cy : Nat → ClassId) (N : Nat) (h0 h0_text : Nat) (oh0_0 oh0_3 oh0_4 oh0_5 oh0_6 oh0_7 oh0_8 oh0_9 oh0_10 oh0_11 oh0_12 oh0_13 oh0_14 oh0_15 oh0_16 oh0_17 oh0_18 oh0_19 oh0_20 oh0_21 oh0_22 oh0_23 oh0_24 oh0_25 oh0_26 oh0_27 oh0_28 oh0_29 oh0_30 oh0_31 oh0_32 oh0_33 oh0_34 oh0_35 oh0_36 oh0_37 : Value) (p1 : Int32) (p2 : Int64) (v_typed : Int32) (v_text : Nat → Int32) (r : Int32) (nv_typed : Int32) (nv_text : Nat → Int32) (hM : f9_feed N p1 p2 v_typed v_text = some (r, nv_typed, nv_text)) (sz : Nat) : CTi l yX9_feed wsX9_feed r9_feed [.ref h0, .int p1, .long p2] D cy sz [(h0, .inr (9, [oh0_0, .ref h0_text, .int v_typed, oh0_3, oh0_4, oh0_5, oh0_6, oh0_7, oh0_8, oh0_9, oh0_10, oh0_11, oh0_12, oh0_13, oh0_14, oh0_15, oh0_16, oh0_17, oh0_18, oh0_19, oh0_20, oh0_21, oh0_22, oh0_23, oh0_24, oh0_25, oh0_26, oh0_27, oh0_28, oh0_29, oh0_30, oh0_31, oh0_32, oh0_33, oh0_34, oh0_35, oh0_36, oh0_37])), (h0_text, .inl (cy 0, 500, .inl v_text))] [(h0, .inr (9, [oh0_0, .ref h0_text, .int nv_typed, oh0_3, oh0_4, oh0_5, oh0_6, oh0_7, oh0_8, oh0_9, oh0_10, oh0_11, oh0_12, oh0_13, oh0_14, oh0_15, oh0_16, oh0_17, oh0_18, oh0_19, oh0_20, oh0_21, oh0_22, oh0_23, oh0_24, oh0_25, oh0_26, oh0_27, oh0_28, oh0_29, oh0_30, oh0_31, oh0_32, oh0_33, oh0_34, oh0_35, oh0_36, oh0_37])), (h0_text, .inl (cy 0, 500, .inl nv_text))] r := by
  unfold f9_feed at hM
  refine ct_oi (cc := cX9_feed) (maxL := 5) (ty := .int) (by decide +kernel) rfl (Nat.le_of_ble_eq_true rfl) (lv0 := [(0, .ref h0), (1, .int p1), (2, .long p2)]) rfl ?_
  intro p e s m args below meth c A Q ls hx hb hts hown hml hK hP hD hS hA hret hl
  have hown : s.vm.findClass RX9 = some m.cls := hown
  have k100 := hts (.fieldLink RX9 100 "CaveYearsModel" "typed" "I") (List.mem_of_getElem? (i := 2) (by decide +kernel))
  have iX9 := (fun w h => (List.mem_cons_of_mem _ (List.mem_append_right _ h)) : ∀ w ∈ wsX90, w ∈ wsX9_feed)
  have k7 := hts (.fieldLink RX9 7 "CaveYearsModel" "text" "[B") (List.mem_of_getElem? (i := 4) (by decide +kernel))
  have k104 := hts (.constantLong RX9 104 (255)) (List.mem_of_getElem? (i := 5) (by decide +kernel))
  have k103 := hts (.constant RX9 103 (-1000000004)) (List.mem_of_getElem? (i := 3) (by decide +kernel))
  have k99 := hts (.constant RX9 99 (-1000000002)) (List.mem_of_getElem? (i := 1) (by decide +kernel))
  refine lv_iload_n hx hb dX9_feed_0 rfl (lv_at hl 1 rfl) ?_
  refine lv_iconst (v := 1) hx hb dX9_feed_1 (by decide) ?_
  refine lv_bipush (v := 8) hx hb dX9_feed_2 (by decide) ?_
  obtain ⟨r4, hc4, hM⟩ := ob1_some hM
  refine cl_si (As := [.int p1, .int (1 : Int32), .int (8 : Int32)]) (rest := []) (wr := [(h0, .inr (9, [oh0_0, .ref h0_text, .int v_typed, oh0_3, oh0_4, oh0_5, oh0_6, oh0_7, oh0_8, oh0_9, oh0_10, oh0_11, oh0_12, oh0_13, oh0_14, oh0_15, oh0_16, oh0_17, oh0_18, oh0_19, oh0_20, oh0_21, oh0_22, oh0_23, oh0_24, oh0_25, oh0_26, oh0_27, oh0_28, oh0_29, oh0_30, oh0_31, oh0_32, oh0_33, oh0_34, oh0_35, oh0_36, oh0_37])), (h0_text, .inl (cy 0, 500, .inl v_text))]) (ws2 := [(h0, .inr (9, [oh0_0, .ref h0_text, .int v_typed, oh0_3, oh0_4, oh0_5, oh0_6, oh0_7, oh0_8, oh0_9, oh0_10, oh0_11, oh0_12, oh0_13, oh0_14, oh0_15, oh0_16, oh0_17, oh0_18, oh0_19, oh0_20, oh0_21, oh0_22, oh0_23, oh0_24, oh0_25, oh0_26, oh0_27, oh0_28, oh0_29, oh0_30, oh0_31, oh0_32, oh0_33, oh0_34, oh0_35, oh0_36, oh0_37])), (h0_text, .inl (cy 0, 500, .inl v_text))]) (isC := []) (isR := [0, 1]) (pm := [0, 1]) hx hb hml hown hts (c9_in l D cy N p1 (1 : Int32) (8 : Int32) r4 hc4) (va_cwS 3 hts gX9_feed_X9_in rfl rfl rfl (by decide +kernel) ⟨Nat.le_of_ble_eq_true rfl, Nat.le_of_ble_eq_true rfl⟩) hK hP hD hS hA rfl rfl rfl (by decide) rfl rfl rfl hl.1 (Nat.le_of_ble_eq_true rfl) dX9_feed_4 ⟨Nat.zero_le _, Nat.zero_le _⟩ rfl rfl (fun H locs hP hD hS => ?_)
  refine lv_if_ne (tgt := 13) hx hb dX9_feed_7 (by decide) (fun c7 => ?_) (fun c7 => ?_)
  · have hM := g_neg c7 hM
    refine lv_aload_n hx hb dX9_feed_13 rfl (lv_at hl 0 rfl) ?_
    refine va_get (D := D) (ci := 9) (v := .int v_typed) (C := RX9) (T := TX9) (N := 38) hx hb hts iX9 hown hK hP 0 rfl rfl 2 (by decide) k100 (fun _ h9 => h9) rfl dX9_feed_14 ?_
    refine lv_iload_n hx hb dX9_feed_17 rfl (lv_at hl 1 rfl) ?_
    refine lv_iadd hx hb dX9_feed_18 ?_
    refine lv_sipush (v := 500) hx hb dX9_feed_19 (by decide) ?_
    refine lv_icmp_le (tgt := 28) hx hb dX9_feed_22 (by decide) (fun c22 => ?_) (fun c22 => ?_)
    · have hM := g_pos c22 hM
      refine lv_iload_n hx hb dX9_feed_28 rfl (lv_at hl 1 rfl) ?_
      refine lv_iconst (v := 1) hx hb dX9_feed_29 (by decide) ?_
      refine lv_isub hx hb dX9_feed_30 ?_
      refine lv_istore (lv' := [(4, .int (p1 - (1 : Int32))), (0, .ref h0), (1, .int p1), (2, .long p2)]) hx hb dX9_feed_31 hl (by decide) rfl (fun ls hl => ?_)
      have L33 : ∀ (n : Nat) (x4_33 : Int32) (v_typed_33 : Int32) (v_text_33 : Nat → Int32) (v_typed_e33 : Int32) (v_text_e33 : Nat → Int32) (H : Heap) (locs : List Loc) (ls : Array Slot), f9_feed_L33 N p2 n x4_33 v_typed_33 v_text_33 = some (v_typed_e33, v_text_e33) → va_P D vwCl [(h0, .inr (9, [oh0_0, .ref h0_text, .int v_typed_33, oh0_3, oh0_4, oh0_5, oh0_6, oh0_7, oh0_8, oh0_9, oh0_10, oh0_11, oh0_12, oh0_13, oh0_14, oh0_15, oh0_16, oh0_17, oh0_18, oh0_19, oh0_20, oh0_21, oh0_22, oh0_23, oh0_24, oh0_25, oh0_26, oh0_27, oh0_28, oh0_29, oh0_30, oh0_31, oh0_32, oh0_33, oh0_34, oh0_35, oh0_36, oh0_37])), (h0_text, .inl (cy 0, 500, .inl v_text_33))] H → va_D A [(h0, .inr (9, [oh0_0, .ref h0_text, .int v_typed_33, oh0_3, oh0_4, oh0_5, oh0_6, oh0_7, oh0_8, oh0_9, oh0_10, oh0_11, oh0_12, oh0_13, oh0_14, oh0_15, oh0_16, oh0_17, oh0_18, oh0_19, oh0_20, oh0_21, oh0_22, oh0_23, oh0_24, oh0_25, oh0_26, oh0_27, oh0_28, oh0_29, oh0_30, oh0_31, oh0_32, oh0_33, oh0_34, oh0_35, oh0_36, oh0_37])), (h0_text, .inl (cy 0, 500, .inl v_text_33))] → va_S A s.heap H locs → lv_has ls 5 [(0, .ref h0), (2, .long p2), (4, .int x4_33)] → (∀ (H : Heap) (locs : List Loc) (ls : Array Slot), va_P D vwCl [(h0, .inr (9, [oh0_0, .ref h0_text, .int v_typed_e33, oh0_3, oh0_4, oh0_5, oh0_6, oh0_7, oh0_8, oh0_9, oh0_10, oh0_11, oh0_12, oh0_13, oh0_14, oh0_15, oh0_16, oh0_17, oh0_18, oh0_19, oh0_20, oh0_21, oh0_22, oh0_23, oh0_24, oh0_25, oh0_26, oh0_27, oh0_28, oh0_29, oh0_30, oh0_31, oh0_32, oh0_33, oh0_34, oh0_35, oh0_36, oh0_37])), (h0_text, .inl (cy 0, 500, .inl v_text_e33))] H → va_D A [(h0, .inr (9, [oh0_0, .ref h0_text, .int v_typed_e33, oh0_3, oh0_4, oh0_5, oh0_6, oh0_7, oh0_8, oh0_9, oh0_10, oh0_11, oh0_12, oh0_13, oh0_14, oh0_15, oh0_16, oh0_17, oh0_18, oh0_19, oh0_20, oh0_21, oh0_22, oh0_23, oh0_24, oh0_25, oh0_26, oh0_27, oh0_28, oh0_29, oh0_30, oh0_31, oh0_32, oh0_33, oh0_34, oh0_35, oh0_36, oh0_37])), (h0_text, .inl (cy 0, 500, .inl v_text_e33))] → va_S A s.heap H locs → lv_has ls 5 [(0, .ref h0)] → W p l e r9_feed s m args below meth c H locs 0 0 Q (F0 m 76 ls [])) → W p l e r9_feed s m args below meth c H locs 0 0 Q (F0 m 33 ls []) := by
        intro n33
        induction n33 with
        | zero =>
          intro x4_33 v_typed_33 v_text_33 v_typed_e33 v_text_e33 H locs ls hM
          exact absurd hM (by simp [f9_feed_L33])
        | succ n33 ih33 =>
          intro x4_33 v_typed_33 v_text_33 v_typed_e33 v_text_e33 H locs ls hM hP hD hS hl K
          rw [f9_feed_L33] at hM
          refine lv_iload hx hb dX9_feed_33 (lv_at hl 2 rfl) ?_
          refine lv_if_lt (tgt := 76) hx hb dX9_feed_35 (by decide) (fun c35 => ?_) (fun c35 => ?_)
          · have hM := g_pos c35 hM
            obtain ⟨rfl, rfl⟩ := si2 hM
            exact K _ _ _ hP hD hS (lv_sub hl [0] rfl)
          · have hM := g_neg c35 hM
            refine lv_aload_n hx hb dX9_feed_38 rfl (lv_at hl 0 rfl) ?_
            refine va_get (D := D) (ci := 9) (v := .ref h0_text) (C := RX9) (T := TX9) (N := 38) hx hb hts iX9 hown hK hP 0 rfl rfl 1 (by decide) k7 (fun _ h9 => h9) rfl dX9_feed_39 ?_
            refine lv_aload_n hx hb dX9_feed_42 rfl (lv_at hl 0 rfl) ?_
            refine va_get (D := D) (ci := 9) (v := .int v_typed_33) (C := RX9) (T := TX9) (N := 38) hx hb hts iX9 hown hK hP 0 rfl rfl 2 (by decide) k100 (fun _ h9 => h9) rfl dX9_feed_43 ?_
            refine lv_lload_n hx hb dX9_feed_46 rfl (lv_at hl 1 rfl) ?_
            refine lv_bipush (v := 8) hx hb dX9_feed_47 (by decide) ?_
            refine lv_iload hx hb dX9_feed_49 (lv_at hl 2 rfl) ?_
            refine lv_imul hx hb dX9_feed_51 ?_
            refine lv_lshr (v := (p2 >>> (((8 : Int32) * x4_33).toInt64 &&& 63))) hx hb dX9_feed_52 rfl ?_
            refine lv_ldc2 (v := 255) hx hb hown k104 dX9_feed_53 ?_
            refine lv_land hx hb dX9_feed_56 ?_
            refine lv_l2i (v := ((p2 >>> (((8 : Int32) * x4_33).toInt64 &&& 63)) &&& (255 : Int64)).toInt32) hx hb dX9_feed_57 rfl ?_
            refine lv_i2b (v := (((p2 >>> (((8 : Int32) * x4_33).toInt64 &&& 63)) &&& (255 : Int64)).toInt32).toInt8.toInt32) hx hb dX9_feed_58 rfl ?_
            obtain ⟨h59, hM⟩ := gi_some hM
            refine va_bast hx hb hK hP hD hS 1 0 rfl rfl h59 dX9_feed_59 (fun H locs hP hD hS => ?_)
            have hP : va_P D vwCl [(h0, .inr (9, [oh0_0, .ref h0_text, .int v_typed_33, oh0_3, oh0_4, oh0_5, oh0_6, oh0_7, oh0_8, oh0_9, oh0_10, oh0_11, oh0_12, oh0_13, oh0_14, oh0_15, oh0_16, oh0_17, oh0_18, oh0_19, oh0_20, oh0_21, oh0_22, oh0_23, oh0_24, oh0_25, oh0_26, oh0_27, oh0_28, oh0_29, oh0_30, oh0_31, oh0_32, oh0_33, oh0_34, oh0_35, oh0_36, oh0_37])), (h0_text, .inl (cy 0, 500, .inl (upd v_text_33 v_typed_33.toNatClampNeg (vp_nar .byte ((((p2 >>> (((8 : Int32) * x4_33).toInt64 &&& 63)) &&& (255 : Int64)).toInt32).toInt8.toInt32)))))] H := hP
            have hD : va_D A [(h0, .inr (9, [oh0_0, .ref h0_text, .int v_typed_33, oh0_3, oh0_4, oh0_5, oh0_6, oh0_7, oh0_8, oh0_9, oh0_10, oh0_11, oh0_12, oh0_13, oh0_14, oh0_15, oh0_16, oh0_17, oh0_18, oh0_19, oh0_20, oh0_21, oh0_22, oh0_23, oh0_24, oh0_25, oh0_26, oh0_27, oh0_28, oh0_29, oh0_30, oh0_31, oh0_32, oh0_33, oh0_34, oh0_35, oh0_36, oh0_37])), (h0_text, .inl (cy 0, 500, .inl (upd v_text_33 v_typed_33.toNatClampNeg (vp_nar .byte ((((p2 >>> (((8 : Int32) * x4_33).toInt64 &&& 63)) &&& (255 : Int64)).toInt32).toInt8.toInt32)))))] := hD
            refine lv_aload_n hx hb dX9_feed_60 rfl (lv_at hl 0 rfl) ?_
            refine lv_dup hx hb dX9_feed_61 rfl ?_
            refine va_get (D := D) (ci := 9) (v := .int v_typed_33) (C := RX9) (T := TX9) (N := 38) hx hb hts iX9 hown hK hP 0 rfl rfl 2 (by decide) k100 (fun _ h9 => h9) rfl dX9_feed_62 ?_
            refine lv_iconst (v := 1) hx hb dX9_feed_65 (by decide) ?_
            refine lv_iadd hx hb dX9_feed_66 ?_
            refine va_put (D := D) (ci := 9) (v := .int (v_typed_33 + (1 : Int32))) (ty := .int) (C := RX9) (T := TX9) (N := 38) hx hb hts iX9 tyX9 tyX9_ok nmX9 hown hK hP hD hS 0 rfl rfl 2 (by decide) k100 (fun _ h9 => h9) rfl (by decide +kernel) rfl rfl (Nat.le_of_ble_eq_true rfl) dX9_feed_67 (fun H locs hP hD hS => ?_)
            have hP : va_P D vwCl [(h0, .inr (9, [oh0_0, .ref h0_text, .int (v_typed_33 + (1 : Int32)), oh0_3, oh0_4, oh0_5, oh0_6, oh0_7, oh0_8, oh0_9, oh0_10, oh0_11, oh0_12, oh0_13, oh0_14, oh0_15, oh0_16, oh0_17, oh0_18, oh0_19, oh0_20, oh0_21, oh0_22, oh0_23, oh0_24, oh0_25, oh0_26, oh0_27, oh0_28, oh0_29, oh0_30, oh0_31, oh0_32, oh0_33, oh0_34, oh0_35, oh0_36, oh0_37])), (h0_text, .inl (cy 0, 500, .inl (upd v_text_33 v_typed_33.toNatClampNeg (vp_nar .byte ((((p2 >>> (((8 : Int32) * x4_33).toInt64 &&& 63)) &&& (255 : Int64)).toInt32).toInt8.toInt32)))))] H := hP
            have hD : va_D A [(h0, .inr (9, [oh0_0, .ref h0_text, .int (v_typed_33 + (1 : Int32)), oh0_3, oh0_4, oh0_5, oh0_6, oh0_7, oh0_8, oh0_9, oh0_10, oh0_11, oh0_12, oh0_13, oh0_14, oh0_15, oh0_16, oh0_17, oh0_18, oh0_19, oh0_20, oh0_21, oh0_22, oh0_23, oh0_24, oh0_25, oh0_26, oh0_27, oh0_28, oh0_29, oh0_30, oh0_31, oh0_32, oh0_33, oh0_34, oh0_35, oh0_36, oh0_37])), (h0_text, .inl (cy 0, 500, .inl (upd v_text_33 v_typed_33.toNatClampNeg (vp_nar .byte ((((p2 >>> (((8 : Int32) * x4_33).toInt64 &&& 63)) &&& (255 : Int64)).toInt32).toInt8.toInt32)))))] := hD
            refine lv_iinc (v := x4_33 + (-1 : Int32)) (lv' := [(4, .int (x4_33 + (-1 : Int32))), (0, .ref h0), (2, .long p2)]) hx hb dX9_feed_70 hl (k := 2) rfl rfl (by decide) rfl (fun ls hl => ?_)
            refine lv_goto (tgt := 33) hx hb dX9_feed_73 (by decide) ?_
            exact ih33 (x4_33 + (-1 : Int32)) (v_typed_33 + (1 : Int32)) (upd v_text_33 v_typed_33.toNatClampNeg (vp_nar .byte ((((p2 >>> (((8 : Int32) * x4_33).toInt64 &&& 63)) &&& (255 : Int64)).toInt32).toInt8.toInt32))) v_typed_e33 v_text_e33 _ _ _ hM hP hD hS (lv_sub hl [1, 2, 0] rfl) K
      obtain ⟨v_typed_e33, v_text_e33, hL33, hM⟩ := ob2_some hM
      refine L33 N (p1 - (1 : Int32)) v_typed v_text v_typed_e33 v_text_e33 _ _ _ hL33 hP hD hS (lv_sub hl [1, 3, 0] rfl) ?_
      intro H locs ls hP hD hS hl
      refine lv_aload_n hx hb dX9_feed_76 rfl (lv_at hl 0 rfl) ?_
      refine va_get (D := D) (ci := 9) (v := .int v_typed_e33) (C := RX9) (T := TX9) (N := 38) hx hb hts iX9 hown hK hP 0 rfl rfl 2 (by decide) k100 (fun _ h9 => h9) rfl dX9_feed_77 ?_
      obtain ⟨rfl, rfl, rfl⟩ := si3 hM
      exact hret _ _ _ _ _ dX9_feed_80 rfl rfl hP hD hS
    · have hM := g_neg c22 hM
      refine lv_ldc (v := -1000000004) hx hb hown k103 dX9_feed_25 ?_
      obtain ⟨rfl, rfl, rfl⟩ := si3 hM
      exact hret _ _ _ _ _ dX9_feed_27 rfl rfl hP hD hS
  · have hM := g_pos c7 hM
    refine lv_ldc (v := -1000000002) hx hb hown k99 dX9_feed_10 ?_
    obtain ⟨rfl, rfl, rfl⟩ := si3 hM
    exact hret _ _ _ _ _ dX9_feed_12 rfl rfl hP hD hS
