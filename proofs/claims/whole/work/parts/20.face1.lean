-- ===== X8_isDays isDays (I)Z =====
abbrev r8_isDays : Room := { frames := 0, cells := 0, slots := 0, locals := 0 }
def f8_isDays (N : Nat) (p1 : Int32) : Option Int32 :=
  if p1 < (1 : Int32) then (some (0 : Int32)) else (if (40 : Int32) < p1 then (some (0 : Int32)) else (some (1 : Int32)))
set_option maxHeartbeats 4000000 in
set_option maxRecDepth 100000 in
theorem c8_isDays (l : Launch) (D : va_G) (cy : Nat → ClassId) (N : Nat) (p1 : Int32) (r : Int32) (hM : f8_isDays N p1 = some r) (sz : Nat) : CTi l yX8_isDays wsX8_isDays r8_isDays [.int p1] D cy sz [] [] r := by
  unfold f8_isDays at hM
  refine ct_oi (cc := cX8_isDays) (maxL := 1) (ty := .boolean) (by decide +kernel) rfl (Nat.le_of_ble_eq_true rfl) (lv0 := [(0, .int p1)]) rfl ?_
  intro p e s m args below meth c A Q ls hx hb hts hown hml hK hP hD hS hA hret hl
  have hown : s.vm.findClass RX8 = some m.cls := hown
  refine lv_iload_n hx hb dX8_isDays_0 rfl (lv_at hl 0 rfl) ?_
  refine lv_iconst (v := 1) hx hb dX8_isDays_1 (by decide) ?_
  refine lv_icmp_lt (tgt := 15) hx hb dX8_isDays_2 (by decide) (fun c2 => ?_) (fun c2 => ?_)
  · have hM := g_pos c2 hM
    refine lv_iconst (v := 0) hx hb dX8_isDays_15 (by decide) ?_
    obtain rfl := si1 hM
    exact hret _ _ _ _ _ dX8_isDays_16 rfl rfl hP hD hS
  · have hM := g_neg c2 hM
    refine lv_iload_n hx hb dX8_isDays_5 rfl (lv_at hl 0 rfl) ?_
    refine lv_bipush (v := 40) hx hb dX8_isDays_6 (by decide) ?_
    refine lv_icmp_gt (tgt := 15) hx hb dX8_isDays_8 (by decide) (fun c8 => ?_) (fun c8 => ?_)
    · have hM := g_pos c8 hM
      refine lv_iconst (v := 0) hx hb dX8_isDays_15 (by decide) ?_
      obtain rfl := si1 hM
      exact hret _ _ _ _ _ dX8_isDays_16 rfl rfl hP hD hS
    · have hM := g_neg c8 hM
      refine lv_iconst (v := 1) hx hb dX8_isDays_11 (by decide) ?_
      refine lv_goto (tgt := 16) hx hb dX8_isDays_12 (by decide) ?_
      obtain rfl := si1 hM
      exact hret _ _ _ _ _ dX8_isDays_16 rfl rfl hP hD hS

-- ===== X8_fault fault ()I =====
abbrev r8_fault : Room := { frames := 0, cells := 0, slots := 0, locals := 0 }
def f8_fault (N : Nat) (v_faultAt : Int32) : Option Int32 :=
  some v_faultAt
set_option maxHeartbeats 4000000 in
set_option maxRecDepth 100000 in
theorem c8_fault (l : Launch) (D : va_G) (cy : Nat → ClassId) (N : Nat) (h0 : Nat) (oh0_0 oh0_1 oh0_3 oh0_4 oh0_5 oh0_6 oh0_7 oh0_8 oh0_9 oh0_10 oh0_11 oh0_12 oh0_13 : Value) (v_faultAt : Int32) (r : Int32) (hM : f8_fault N v_faultAt = some r) (sz : Nat) : CTi l yX8_fault wsX8_fault r8_fault [.ref h0] D cy sz [(h0, .inr (8, [oh0_0, oh0_1, .int v_faultAt, oh0_3, oh0_4, oh0_5, oh0_6, oh0_7, oh0_8, oh0_9, oh0_10, oh0_11, oh0_12, oh0_13]))] [(h0, .inr (8, [oh0_0, oh0_1, .int v_faultAt, oh0_3, oh0_4, oh0_5, oh0_6, oh0_7, oh0_8, oh0_9, oh0_10, oh0_11, oh0_12, oh0_13]))] r := by
  unfold f8_fault at hM
  refine ct_oi (cc := cX8_fault) (maxL := 1) (ty := .int) (by decide +kernel) rfl (Nat.le_of_ble_eq_true rfl) (lv0 := [(0, .ref h0)]) rfl ?_
  intro p e s m args below meth c A Q ls hx hb hts hown hml hK hP hD hS hA hret hl
  have hown : s.vm.findClass RX8 = some m.cls := hown
  have k17 := hts (.fieldLink RX8 17 "CaveYears" "faultAt" "I") (List.mem_of_getElem? (i := 1) (by decide +kernel))
  have iX8 := (fun w h => (List.mem_cons_of_mem _ (List.mem_append_right _ h)) : ∀ w ∈ wsX80, w ∈ wsX8_fault)
  refine lv_aload_n hx hb dX8_fault_0 rfl (lv_at hl 0 rfl) ?_
  refine va_get (D := D) (ci := 8) (v := .int v_faultAt) (C := RX8) (T := TX8) (N := 14) hx hb hts iX8 hown hK hP 0 rfl rfl 2 (by decide) k17 (fun _ h9 => h9) rfl dX8_fault_1 ?_
  obtain rfl := si1 hM
  exact hret _ _ _ _ _ dX8_fault_4 rfl rfl hP hD hS

-- ===== X8_feed feed (IJ)I =====
abbrev r8_feed : Room := { frames := 0, cells := 0, slots := 0, locals := 0 }
def f8_feed_L41 (N : Nat) (p2 : Int64) : Nat → Int32 → Int32 → (Nat → Int32) → Option (Int32 × (Nat → Int32))
  | 0, _, _, _ => none
  | n + 1, x4_41, v_textLength_41, v_text_41 => if x4_41 < (0 : Int32) then (some (v_textLength_41, v_text_41)) else (gi v_textLength_41 500 ((f8_feed_L41 N p2 n) (x4_41 + (-1 : Int32)) (v_textLength_41 + (1 : Int32)) (upd v_text_41 v_textLength_41.toNatClampNeg (vp_nar .char ((((((p2.toUInt64 >>> (((8 : Int32) * x4_41).toInt64.toUInt64 &&& Int64.toUInt64 63)).toInt64) &&& (255 : Int64)).toInt32).toUInt32 % 65536).toInt32)))))
def f8_feed (N : Nat) (p1 : Int32) (p2 : Int64) (v_textLength : Int32) (v_text : Nat → Int32) : Option (Int32 × Int32 × (Nat → Int32)) :=
  if p1 < (1 : Int32) then (some ((-1000000002 : Int32), v_textLength, v_text)) else (if p1 ≤ (8 : Int32) then (if v_textLength < (0 : Int32) then (some ((-1000000004 : Int32), v_textLength, v_text)) else (if (v_textLength + p1) ≤ (500 : Int32) then (ob2 (f8_feed_L41 N p2 N (p1 - (1 : Int32)) v_textLength v_text) fun v_textLength_e41 v_text_e41 => some (v_textLength_e41, v_textLength_e41, v_text_e41)) else (some ((-1000000004 : Int32), v_textLength, v_text)))) else (some ((-1000000002 : Int32), v_textLength, v_text)))
set_option maxHeartbeats 4000000 in
set_option maxRecDepth 100000 in
theorem c8_feed (l : Launch) (D : va_G) (cy : Nat → ClassId) (N : Nat) (h0 h0_text : Nat) (oh0_2 oh0_3 oh0_4 oh0_5 oh0_6 oh0_7 oh0_8 oh0_9 oh0_10 oh0_11 oh0_12 oh0_13 : Value) (p1 : Int32) (p2 : Int64) (v_textLength : Int32) (v_text : Nat → Int32) (r : Int32) (nv_textLength : Int32) (nv_text : Nat → Int32) (hM : f8_feed N p1 p2 v_textLength v_text = some (r, nv_textLength, nv_text)) (sz : Nat) : CTi l yX8_feed wsX8_feed r8_feed [.ref h0, .int p1, .long p2] D cy sz [(h0, .inr (8, [.ref h0_text, .int v_textLength, oh0_2, oh0_3, oh0_4, oh0_5, oh0_6, oh0_7, oh0_8, oh0_9, oh0_10, oh0_11, oh0_12, oh0_13])), (h0_text, .inl (cy 1, 500, .inl v_text))] [(h0, .inr (8, [.ref h0_text, .int nv_textLength, oh0_2, oh0_3, oh0_4, oh0_5, oh0_6, oh0_7, oh0_8, oh0_9, oh0_10, oh0_11, oh0_12, oh0_13])), (h0_text, .inl (cy 1, 500, .inl nv_text))] r := by
  unfold f8_feed at hM
  refine ct_oi (cc := cX8_feed) (maxL := 5) (ty := .int) (by decide +kernel) rfl (Nat.le_of_ble_eq_true rfl) (lv0 := [(0, .ref h0), (1, .int p1), (2, .long p2)]) rfl ?_
  intro p e s m args below meth c A Q ls hx hb hts hown hml hK hP hD hS hA hret hl
  have hown : s.vm.findClass RX8 = some m.cls := hown
  have k85 := hts (.constant RX8 85 (-1000000002)) (List.mem_of_getElem? (i := 1) (by decide +kernel))
  have k13 := hts (.fieldLink RX8 13 "CaveYears" "textLength" "I") (List.mem_of_getElem? (i := 2) (by decide +kernel))
  have iX8 := (fun w h => (List.mem_cons_of_mem _ (List.mem_append_right _ h)) : ∀ w ∈ wsX80, w ∈ wsX8_feed)
  have k86 := hts (.constant RX8 86 (-1000000004)) (List.mem_of_getElem? (i := 3) (by decide +kernel))
  have k9 := hts (.fieldLink RX8 9 "CaveYears" "text" "[C") (List.mem_of_getElem? (i := 4) (by decide +kernel))
  have k87 := hts (.constantLong RX8 87 (255)) (List.mem_of_getElem? (i := 5) (by decide +kernel))
  refine lv_iload_n hx hb dX8_feed_0 rfl (lv_at hl 1 rfl) ?_
  refine lv_iconst (v := 1) hx hb dX8_feed_1 (by decide) ?_
  refine lv_icmp_lt (tgt := 11) hx hb dX8_feed_2 (by decide) (fun c2 => ?_) (fun c2 => ?_)
  · have hM := g_pos c2 hM
    refine lv_ldc (v := -1000000002) hx hb hown k85 dX8_feed_11 ?_
    obtain ⟨rfl, rfl, rfl⟩ := si3 hM
    exact hret _ _ _ _ _ dX8_feed_13 rfl rfl hP hD hS
  · have hM := g_neg c2 hM
    refine lv_iload_n hx hb dX8_feed_5 rfl (lv_at hl 1 rfl) ?_
    refine lv_bipush (v := 8) hx hb dX8_feed_6 (by decide) ?_
    refine lv_icmp_le (tgt := 14) hx hb dX8_feed_8 (by decide) (fun c8 => ?_) (fun c8 => ?_)
    · have hM := g_pos c8 hM
      refine lv_aload_n hx hb dX8_feed_14 rfl (lv_at hl 0 rfl) ?_
      refine va_get (D := D) (ci := 8) (v := .int v_textLength) (C := RX8) (T := TX8) (N := 14) hx hb hts iX8 hown hK hP 0 rfl rfl 1 (by decide) k13 (fun _ h9 => h9) rfl dX8_feed_15 ?_
      refine lv_if_lt (tgt := 33) hx hb dX8_feed_18 (by decide) (fun c18 => ?_) (fun c18 => ?_)
      · have hM := g_pos c18 hM
        refine lv_ldc (v := -1000000004) hx hb hown k86 dX8_feed_33 ?_
        obtain ⟨rfl, rfl, rfl⟩ := si3 hM
        exact hret _ _ _ _ _ dX8_feed_35 rfl rfl hP hD hS
      · have hM := g_neg c18 hM
        refine lv_aload_n hx hb dX8_feed_21 rfl (lv_at hl 0 rfl) ?_
        refine va_get (D := D) (ci := 8) (v := .int v_textLength) (C := RX8) (T := TX8) (N := 14) hx hb hts iX8 hown hK hP 0 rfl rfl 1 (by decide) k13 (fun _ h9 => h9) rfl dX8_feed_22 ?_
        refine lv_iload_n hx hb dX8_feed_25 rfl (lv_at hl 1 rfl) ?_
        refine lv_iadd hx hb dX8_feed_26 ?_
        refine lv_sipush (v := 500) hx hb dX8_feed_27 (by decide) ?_
        refine lv_icmp_le (tgt := 36) hx hb dX8_feed_30 (by decide) (fun c30 => ?_) (fun c30 => ?_)
        · have hM := g_pos c30 hM
          refine lv_iload_n hx hb dX8_feed_36 rfl (lv_at hl 1 rfl) ?_
          refine lv_iconst (v := 1) hx hb dX8_feed_37 (by decide) ?_
          refine lv_isub hx hb dX8_feed_38 ?_
          refine lv_istore (lv' := [(4, .int (p1 - (1 : Int32))), (0, .ref h0), (1, .int p1), (2, .long p2)]) hx hb dX8_feed_39 hl (by decide) rfl (fun ls hl => ?_)
          have L41 : ∀ (n : Nat) (x4_41 : Int32) (v_textLength_41 : Int32) (v_text_41 : Nat → Int32) (v_textLength_e41 : Int32) (v_text_e41 : Nat → Int32) (H : Heap) (locs : List Loc) (ls : Array Slot), f8_feed_L41 N p2 n x4_41 v_textLength_41 v_text_41 = some (v_textLength_e41, v_text_e41) → va_P D vwCl [(h0, .inr (8, [.ref h0_text, .int v_textLength_41, oh0_2, oh0_3, oh0_4, oh0_5, oh0_6, oh0_7, oh0_8, oh0_9, oh0_10, oh0_11, oh0_12, oh0_13])), (h0_text, .inl (cy 1, 500, .inl v_text_41))] H → va_D A [(h0, .inr (8, [.ref h0_text, .int v_textLength_41, oh0_2, oh0_3, oh0_4, oh0_5, oh0_6, oh0_7, oh0_8, oh0_9, oh0_10, oh0_11, oh0_12, oh0_13])), (h0_text, .inl (cy 1, 500, .inl v_text_41))] → va_S A s.heap H locs → lv_has ls 5 [(0, .ref h0), (2, .long p2), (4, .int x4_41)] → (∀ (H : Heap) (locs : List Loc) (ls : Array Slot), va_P D vwCl [(h0, .inr (8, [.ref h0_text, .int v_textLength_e41, oh0_2, oh0_3, oh0_4, oh0_5, oh0_6, oh0_7, oh0_8, oh0_9, oh0_10, oh0_11, oh0_12, oh0_13])), (h0_text, .inl (cy 1, 500, .inl v_text_e41))] H → va_D A [(h0, .inr (8, [.ref h0_text, .int v_textLength_e41, oh0_2, oh0_3, oh0_4, oh0_5, oh0_6, oh0_7, oh0_8, oh0_9, oh0_10, oh0_11, oh0_12, oh0_13])), (h0_text, .inl (cy 1, 500, .inl v_text_e41))] → va_S A s.heap H locs → lv_has ls 5 [(0, .ref h0)] → W p l e r8_feed s m args below meth c H locs 0 0 Q (F0 m 84 ls [])) → W p l e r8_feed s m args below meth c H locs 0 0 Q (F0 m 41 ls []) := by
            intro n41
            induction n41 with
            | zero =>
              intro x4_41 v_textLength_41 v_text_41 v_textLength_e41 v_text_e41 H locs ls hM
              exact absurd hM (by simp [f8_feed_L41])
            | succ n41 ih41 =>
              intro x4_41 v_textLength_41 v_text_41 v_textLength_e41 v_text_e41 H locs ls hM hP hD hS hl K
              rw [f8_feed_L41] at hM
              refine lv_iload hx hb dX8_feed_41 (lv_at hl 2 rfl) ?_
              refine lv_if_lt (tgt := 84) hx hb dX8_feed_43 (by decide) (fun c43 => ?_) (fun c43 => ?_)
              · have hM := g_pos c43 hM
                obtain ⟨rfl, rfl⟩ := si2 hM
                exact K _ _ _ hP hD hS (lv_sub hl [0] rfl)
              · have hM := g_neg c43 hM
                refine lv_aload_n hx hb dX8_feed_46 rfl (lv_at hl 0 rfl) ?_
                refine va_get (D := D) (ci := 8) (v := .ref h0_text) (C := RX8) (T := TX8) (N := 14) hx hb hts iX8 hown hK hP 0 rfl rfl 0 (by decide) k9 (fun _ h9 => h9) rfl dX8_feed_47 ?_
                refine lv_aload_n hx hb dX8_feed_50 rfl (lv_at hl 0 rfl) ?_
                refine va_get (D := D) (ci := 8) (v := .int v_textLength_41) (C := RX8) (T := TX8) (N := 14) hx hb hts iX8 hown hK hP 0 rfl rfl 1 (by decide) k13 (fun _ h9 => h9) rfl dX8_feed_51 ?_
                refine lv_lload_n hx hb dX8_feed_54 rfl (lv_at hl 1 rfl) ?_
                refine lv_bipush (v := 8) hx hb dX8_feed_55 (by decide) ?_
                refine lv_iload hx hb dX8_feed_57 (lv_at hl 2 rfl) ?_
                refine lv_imul hx hb dX8_feed_59 ?_
                refine lv_lushr (v := (p2.toUInt64 >>> (((8 : Int32) * x4_41).toInt64.toUInt64 &&& Int64.toUInt64 63)).toInt64) hx hb dX8_feed_60 rfl ?_
                refine lv_ldc2 (v := 255) hx hb hown k87 dX8_feed_61 ?_
                refine lv_land hx hb dX8_feed_64 ?_
                refine lv_l2i (v := (((p2.toUInt64 >>> (((8 : Int32) * x4_41).toInt64.toUInt64 &&& Int64.toUInt64 63)).toInt64) &&& (255 : Int64)).toInt32) hx hb dX8_feed_65 rfl ?_
                refine lv_i2c (v := (((((p2.toUInt64 >>> (((8 : Int32) * x4_41).toInt64.toUInt64 &&& Int64.toUInt64 63)).toInt64) &&& (255 : Int64)).toInt32).toUInt32 % 65536).toInt32) hx hb dX8_feed_66 rfl ?_
                obtain ⟨h67, hM⟩ := gi_some hM
                refine va_cast hx hb hK hP hD hS 1 1 rfl rfl h67 dX8_feed_67 (fun H locs hP hD hS => ?_)
                have hP : va_P D vwCl [(h0, .inr (8, [.ref h0_text, .int v_textLength_41, oh0_2, oh0_3, oh0_4, oh0_5, oh0_6, oh0_7, oh0_8, oh0_9, oh0_10, oh0_11, oh0_12, oh0_13])), (h0_text, .inl (cy 1, 500, .inl (upd v_text_41 v_textLength_41.toNatClampNeg (vp_nar .char ((((((p2.toUInt64 >>> (((8 : Int32) * x4_41).toInt64.toUInt64 &&& Int64.toUInt64 63)).toInt64) &&& (255 : Int64)).toInt32).toUInt32 % 65536).toInt32)))))] H := hP
                have hD : va_D A [(h0, .inr (8, [.ref h0_text, .int v_textLength_41, oh0_2, oh0_3, oh0_4, oh0_5, oh0_6, oh0_7, oh0_8, oh0_9, oh0_10, oh0_11, oh0_12, oh0_13])), (h0_text, .inl (cy 1, 500, .inl (upd v_text_41 v_textLength_41.toNatClampNeg (vp_nar .char ((((((p2.toUInt64 >>> (((8 : Int32) * x4_41).toInt64.toUInt64 &&& Int64.toUInt64 63)).toInt64) &&& (255 : Int64)).toInt32).toUInt32 % 65536).toInt32)))))] := hD
                refine lv_aload_n hx hb dX8_feed_68 rfl (lv_at hl 0 rfl) ?_
                refine lv_dup hx hb dX8_feed_69 rfl ?_
                refine va_get (D := D) (ci := 8) (v := .int v_textLength_41) (C := RX8) (T := TX8) (N := 14) hx hb hts iX8 hown hK hP 0 rfl rfl 1 (by decide) k13 (fun _ h9 => h9) rfl dX8_feed_70 ?_
                refine lv_iconst (v := 1) hx hb dX8_feed_73 (by decide) ?_
                refine lv_iadd hx hb dX8_feed_74 ?_
                refine va_put (D := D) (ci := 8) (v := .int (v_textLength_41 + (1 : Int32))) (ty := .int) (C := RX8) (T := TX8) (N := 14) hx hb hts iX8 tyX8 tyX8_ok nmX8 hown hK hP hD hS 0 rfl rfl 1 (by decide) k13 (fun _ h9 => h9) rfl (by decide +kernel) rfl rfl (Nat.le_of_ble_eq_true rfl) dX8_feed_75 (fun H locs hP hD hS => ?_)
                have hP : va_P D vwCl [(h0, .inr (8, [.ref h0_text, .int (v_textLength_41 + (1 : Int32)), oh0_2, oh0_3, oh0_4, oh0_5, oh0_6, oh0_7, oh0_8, oh0_9, oh0_10, oh0_11, oh0_12, oh0_13])), (h0_text, .inl (cy 1, 500, .inl (upd v_text_41 v_textLength_41.toNatClampNeg (vp_nar .char ((((((p2.toUInt64 >>> (((8 : Int32) * x4_41).toInt64.toUInt64 &&& Int64.toUInt64 63)).toInt64) &&& (255 : Int64)).toInt32).toUInt32 % 65536).toInt32)))))] H := hP
                have hD : va_D A [(h0, .inr (8, [.ref h0_text, .int (v_textLength_41 + (1 : Int32)), oh0_2, oh0_3, oh0_4, oh0_5, oh0_6, oh0_7, oh0_8, oh0_9, oh0_10, oh0_11, oh0_12, oh0_13])), (h0_text, .inl (cy 1, 500, .inl (upd v_text_41 v_textLength_41.toNatClampNeg (vp_nar .char ((((((p2.toUInt64 >>> (((8 : Int32) * x4_41).toInt64.toUInt64 &&& Int64.toUInt64 63)).toInt64) &&& (255 : Int64)).toInt32).toUInt32 % 65536).toInt32)))))] := hD
                refine lv_iinc (v := x4_41 + (-1 : Int32)) (lv' := [(4, .int (x4_41 + (-1 : Int32))), (0, .ref h0), (2, .long p2)]) hx hb dX8_feed_78 hl (k := 2) rfl rfl (by decide) rfl (fun ls hl => ?_)
                refine lv_goto (tgt := 41) hx hb dX8_feed_81 (by decide) ?_
                exact ih41 (x4_41 + (-1 : Int32)) (v_textLength_41 + (1 : Int32)) (upd v_text_41 v_textLength_41.toNatClampNeg (vp_nar .char ((((((p2.toUInt64 >>> (((8 : Int32) * x4_41).toInt64.toUInt64 &&& Int64.toUInt64 63)).toInt64) &&& (255 : Int64)).toInt32).toUInt32 % 65536).toInt32))) v_textLength_e41 v_text_e41 _ _ _ hM hP hD hS (lv_sub hl [1, 2, 0] rfl) K
          obtain ⟨v_textLength_e41, v_text_e41, hL41, hM⟩ := ob2_some hM
          refine L41 N (p1 - (1 : Int32)) v_textLength v_text v_textLength_e41 v_text_e41 _ _ _ hL41 hP hD hS (lv_sub hl [1, 3, 0] rfl) ?_
          intro H locs ls hP hD hS hl
          refine lv_aload_n hx hb dX8_feed_84 rfl (lv_at hl 0 rfl) ?_
          refine va_get (D := D) (ci := 8) (v := .int v_textLength_e41) (C := RX8) (T := TX8) (N := 14) hx hb hts iX8 hown hK hP 0 rfl rfl 1 (by decide) k13 (fun _ h9 => h9) rfl dX8_feed_85 ?_
          obtain ⟨rfl, rfl, rfl⟩ := si3 hM
          exact hret _ _ _ _ _ dX8_feed_88 rfl rfl hP hD hS
        · have hM := g_neg c30 hM
          refine lv_ldc (v := -1000000004) hx hb hown k86 dX8_feed_33 ?_
          obtain ⟨rfl, rfl, rfl⟩ := si3 hM
          exact hret _ _ _ _ _ dX8_feed_35 rfl rfl hP hD hS
    · have hM := g_neg c8 hM
      refine lv_ldc (v := -1000000002) hx hb hown k85 dX8_feed_11 ?_
      obtain ⟨rfl, rfl, rfl⟩ := si3 hM
      exact hret _ _ _ _ _ dX8_feed_13 rfl rfl hP hD hS

-- ===== X8_told told (I)I =====
abbrev r8_told : Room := { frames := 3, cells := 0, slots := 0, locals := 65 }
def f8_told (N : Nat) (p1 : Int32) (v_textLength : Int32) (v_den_parts : Int32) (v_den_mouths : Int32) (v_den_persons : Int32) (v_den_interest : Int32) (v_den_winters : Int32) (v_den_rate : Nat → Int32) (v_stay_count : Int32) (v_stay_partOf : Nat → Int32) (v_folk_date : Int32) (v_folk_out : Nat → Int32) (v_trials_count : Int32) (v_registers_count : Int32) : Option Int32 :=
  if p1 = (0 : Int32) then (some v_den_parts) else (if p1 = (1 : Int32) then (some v_den_mouths) else (if p1 = (2 : Int32) then (some v_den_persons) else (if p1 = (3 : Int32) then (some v_den_interest) else (if p1 = (4 : Int32) then (some v_den_winters) else (if p1 = (5 : Int32) then (some v_textLength) else (if p1 = (6 : Int32) then (some v_folk_date) else (if p1 = (7 : Int32) then (ob1 (f2_downSet N v_den_persons v_folk_out) fun r128 => some r128) else (if p1 = (8 : Int32) then (some v_stay_count) else (if p1 = (9 : Int32) then (ob1 (f6_time N v_stay_count v_stay_partOf v_den_parts v_den_rate) fun r148 => some r148) else (if p1 = (10 : Int32) then (some v_trials_count) else (if p1 = (11 : Int32) then (some v_registers_count) else (some (-1000000002 : Int32)))))))))))))
set_option maxHeartbeats 4000000 in
set_option maxRecDepth 100000 in
theorem c8_told (l : Launch) (D : va_G) (cy : Nat → ClassId) (N : Nat) (h0 h0_den h0_den_rate h0_stay h0_stay_partOf h0_folk h0_folk_out h0_trials h0_registers : Nat) (oh0_0 oh0_2 oh0_4 oh0_5 oh0_8 oh0_9 oh0_10 oh0_11 oh0_den_2 oh0_den_5 oh0_den_8 oh0_den_9 oh0_den_10 oh0_den_11 oh0_den_12 oh0_folk_0 oh0_folk_2 oh0_folk_3 oh0_folk_4 oh0_trials_1 oh0_trials_2 oh0_registers_1 oh0_registers_2 oh0_registers_3 : Value) (p1 : Int32) (v_textLength : Int32) (v_den_parts : Int32) (v_den_mouths : Int32) (v_den_persons : Int32) (v_den_interest : Int32) (v_den_winters : Int32) (v_den_rate : Nat → Int32) (v_stay_count : Int32) (v_stay_partOf : Nat → Int32) (v_folk_date : Int32) (v_folk_out : Nat → Int32) (v_trials_count : Int32) (v_registers_count : Int32) (r : Int32) (hM : f8_told N p1 v_textLength v_den_parts v_den_mouths v_den_persons v_den_interest v_den_winters v_den_rate v_stay_count v_stay_partOf v_folk_date v_folk_out v_trials_count v_registers_count = some r) (sz : Nat) : CTi l yX8_told wsX8_told r8_told [.ref h0, .int p1] D cy sz [(h0, .inr (8, [oh0_0, .int v_textLength, oh0_2, .ref h0_den, oh0_4, oh0_5, .ref h0_stay, .ref h0_folk, oh0_8, oh0_9, oh0_10, oh0_11, .ref h0_trials, .ref h0_registers])), (h0_den, .inr (0, [.int v_den_parts, .int v_den_mouths, oh0_den_2, .int v_den_persons, .int v_den_interest, oh0_den_5, .int v_den_winters, .ref h0_den_rate, oh0_den_8, oh0_den_9, oh0_den_10, oh0_den_11, oh0_den_12])), (h0_den_rate, .inl (cy 2, 7, .inl v_den_rate)), (h0_stay, .inr (6, [.int v_stay_count, .ref h0_stay_partOf])), (h0_stay_partOf, .inl (cy 2, 40, .inl v_stay_partOf)), (h0_folk, .inr (2, [oh0_folk_0, .int v_folk_date, oh0_folk_2, oh0_folk_3, oh0_folk_4, .ref h0_folk_out])), (h0_folk_out, .inl (cy 2, 6, .inl v_folk_out)), (h0_trials, .inr (7, [.int v_trials_count, oh0_trials_1, oh0_trials_2])), (h0_registers, .inr (4, [.int v_registers_count, oh0_registers_1, oh0_registers_2, oh0_registers_3]))] [(h0, .inr (8, [oh0_0, .int v_textLength, oh0_2, .ref h0_den, oh0_4, oh0_5, .ref h0_stay, .ref h0_folk, oh0_8, oh0_9, oh0_10, oh0_11, .ref h0_trials, .ref h0_registers])), (h0_den, .inr (0, [.int v_den_parts, .int v_den_mouths, oh0_den_2, .int v_den_persons, .int v_den_interest, oh0_den_5, .int v_den_winters, .ref h0_den_rate, oh0_den_8, oh0_den_9, oh0_den_10, oh0_den_11, oh0_den_12])), (h0_den_rate, .inl (cy 2, 7, .inl v_den_rate)), (h0_stay, .inr (6, [.int v_stay_count, .ref h0_stay_partOf])), (h0_stay_partOf, .inl (cy 2, 40, .inl v_stay_partOf)), (h0_folk, .inr (2, [oh0_folk_0, .int v_folk_date, oh0_folk_2, oh0_folk_3, oh0_folk_4, .ref h0_folk_out])), (h0_folk_out, .inl (cy 2, 6, .inl v_folk_out)), (h0_trials, .inr (7, [.int v_trials_count, oh0_trials_1, oh0_trials_2])), (h0_registers, .inr (4, [.int v_registers_count, oh0_registers_1, oh0_registers_2, oh0_registers_3]))] r := by
  unfold f8_told at hM
  refine ct_oi (cc := cX8_told) (maxL := 2) (ty := .int) (by decide +kernel) rfl (Nat.le_of_ble_eq_true rfl) (lv0 := [(0, .ref h0), (1, .int p1)]) rfl ?_
  intro p e s m args below meth c A Q ls hx hb hts hown hml hK hP hD hS hA hret hl
  have hown : s.vm.findClass RX8 = some m.cls := hown
  have k85 := hts (.constant RX8 85 (-1000000002)) (List.mem_of_getElem? (i := 16) (by decide +kernel))
  have k81 := hts (.fieldLink RX8 81 "CaveYears" "registers" "LCaveYears$Registers;") (List.mem_of_getElem? (i := 14) (by decide +kernel))
  have iX8 := (fun w h => (List.mem_cons_of_mem _ (List.mem_append_left _ (List.mem_append_left _ (List.mem_append_left _ (List.mem_append_left _ (List.mem_append_left _ (List.mem_append_right _ h))))))) : ∀ w ∈ wsX80, w ∈ wsX8_told)
  have k109 := hts (.fieldLink RX8 109 "CaveYears$Registers" "count" "I") (List.mem_of_getElem? (i := 15) (by decide +kernel))
  have iX4 := (fun w h => (List.mem_cons_of_mem _ (List.mem_append_right _ h)) : ∀ w ∈ wsX40, w ∈ wsX8_told)
  have k74 := hts (.fieldLink RX8 74 "CaveYears" "trials" "LCaveYears$Trials;") (List.mem_of_getElem? (i := 12) (by decide +kernel))
  have k108 := hts (.fieldLink RX8 108 "CaveYears$Trials" "count" "I") (List.mem_of_getElem? (i := 13) (by decide +kernel))
  have iX7 := (fun w h => (List.mem_cons_of_mem _ (List.mem_append_left _ (List.mem_append_right _ h))) : ∀ w ∈ wsX70, w ∈ wsX8_told)
  have k40 := hts (.fieldLink RX8 40 "CaveYears" "stay" "LCaveYears$Stay;") (List.mem_of_getElem? (i := 10) (by decide +kernel))
  have k23 := hts (.fieldLink RX8 23 "CaveYears" "den" "LCaveYears$Cave;") (List.mem_of_getElem? (i := 1) (by decide +kernel))
  have k105 := hts (.fieldLink RX8 105 "CaveYears$Stay" "count" "I") (List.mem_of_getElem? (i := 11) (by decide +kernel))
  have iX6 := (fun w h => (List.mem_cons_of_mem _ (List.mem_append_left _ (List.mem_append_left _ (List.mem_append_right _ h)))) : ∀ w ∈ wsX60, w ∈ wsX8_told)
  have k47 := hts (.fieldLink RX8 47 "CaveYears" "folk" "LCaveYears$Folk;") (List.mem_of_getElem? (i := 8) (by decide +kernel))
  have k116 := hts (.fieldLink RX8 116 "CaveYears$Cave" "persons" "I") (List.mem_of_getElem? (i := 4) (by decide +kernel))
  have iX0 := (fun w h => (List.mem_cons_of_mem _ (List.mem_append_left _ (List.mem_append_left _ (List.mem_append_left _ (List.mem_append_left _ (List.mem_append_right _ h)))))) : ∀ w ∈ wsX00, w ∈ wsX8_told)
  have k125 := hts (.fieldLink RX8 125 "CaveYears$Folk" "date" "I") (List.mem_of_getElem? (i := 9) (by decide +kernel))
  have iX2 := (fun w h => (List.mem_cons_of_mem _ (List.mem_append_left _ (List.mem_append_left _ (List.mem_append_left _ (List.mem_append_right _ h))))) : ∀ w ∈ wsX20, w ∈ wsX8_told)
  have k13 := hts (.fieldLink RX8 13 "CaveYears" "textLength" "I") (List.mem_of_getElem? (i := 7) (by decide +kernel))
  have k122 := hts (.fieldLink RX8 122 "CaveYears$Cave" "winters" "I") (List.mem_of_getElem? (i := 6) (by decide +kernel))
  have k119 := hts (.fieldLink RX8 119 "CaveYears$Cave" "interest" "I") (List.mem_of_getElem? (i := 5) (by decide +kernel))
  have k113 := hts (.fieldLink RX8 113 "CaveYears$Cave" "mouths" "I") (List.mem_of_getElem? (i := 3) (by decide +kernel))
  have k110 := hts (.fieldLink RX8 110 "CaveYears$Cave" "parts" "I") (List.mem_of_getElem? (i := 2) (by decide +kernel))
  refine lv_iload_n hx hb dX8_told_0 rfl (lv_at hl 1 rfl) ?_
  rcases Classical.em (p1 = (0 : Int32)) with c1_0 | c1_0
  · have hM := g_pos c1_0 hM
    refine lv_tableIn (off := 63) (tgt := 64) hx hb dX8_told_1 (by rw [c1_0]; decide) (by rw [c1_0]; decide) (by rw [c1_0]; decide) (by decide) ?_
    refine lv_aload_n hx hb dX8_told_64 rfl (lv_at hl 0 rfl) ?_
    refine va_get (D := D) (ci := 8) (v := .ref h0_den) (C := RX8) (T := TX8) (N := 14) hx hb hts iX8 hown hK hP 0 rfl rfl 3 (by decide) k23 (fun _ h9 => h9) rfl dX8_told_65 ?_
    refine va_get (D := D) (ci := 0) (v := .int v_den_parts) (C := RX0) (T := TX0) (N := 13) hx hb hts iX0 hown hK hP 1 rfl rfl 0 (by decide) k110 (fun _ h9 => h9) rfl dX8_told_68 ?_
    obtain rfl := si1 hM
    exact hret _ _ _ _ _ dX8_told_71 rfl rfl hP hD hS
  · have hM := g_neg c1_0 hM
    rcases Classical.em (p1 = (1 : Int32)) with c1_1 | c1_1
    · have hM := g_pos c1_1 hM
      refine lv_tableIn (off := 71) (tgt := 72) hx hb dX8_told_1 (by rw [c1_1]; decide) (by rw [c1_1]; decide) (by rw [c1_1]; decide) (by decide) ?_
      refine lv_aload_n hx hb dX8_told_72 rfl (lv_at hl 0 rfl) ?_
      refine va_get (D := D) (ci := 8) (v := .ref h0_den) (C := RX8) (T := TX8) (N := 14) hx hb hts iX8 hown hK hP 0 rfl rfl 3 (by decide) k23 (fun _ h9 => h9) rfl dX8_told_73 ?_
      refine va_get (D := D) (ci := 0) (v := .int v_den_mouths) (C := RX0) (T := TX0) (N := 13) hx hb hts iX0 hown hK hP 1 rfl rfl 1 (by decide) k113 (fun _ h9 => h9) rfl dX8_told_76 ?_
      obtain rfl := si1 hM
      exact hret _ _ _ _ _ dX8_told_79 rfl rfl hP hD hS
    · have hM := g_neg c1_1 hM
      rcases Classical.em (p1 = (2 : Int32)) with c1_2 | c1_2
      · have hM := g_pos c1_2 hM
        refine lv_tableIn (off := 79) (tgt := 80) hx hb dX8_told_1 (by rw [c1_2]; decide) (by rw [c1_2]; decide) (by rw [c1_2]; decide) (by decide) ?_
        refine lv_aload_n hx hb dX8_told_80 rfl (lv_at hl 0 rfl) ?_
        refine va_get (D := D) (ci := 8) (v := .ref h0_den) (C := RX8) (T := TX8) (N := 14) hx hb hts iX8 hown hK hP 0 rfl rfl 3 (by decide) k23 (fun _ h9 => h9) rfl dX8_told_81 ?_
        refine va_get (D := D) (ci := 0) (v := .int v_den_persons) (C := RX0) (T := TX0) (N := 13) hx hb hts iX0 hown hK hP 1 rfl rfl 3 (by decide) k116 (fun _ h9 => h9) rfl dX8_told_84 ?_
        obtain rfl := si1 hM
        exact hret _ _ _ _ _ dX8_told_87 rfl rfl hP hD hS
      · have hM := g_neg c1_2 hM
        rcases Classical.em (p1 = (3 : Int32)) with c1_3 | c1_3
        · have hM := g_pos c1_3 hM
          refine lv_tableIn (off := 87) (tgt := 88) hx hb dX8_told_1 (by rw [c1_3]; decide) (by rw [c1_3]; decide) (by rw [c1_3]; decide) (by decide) ?_
          refine lv_aload_n hx hb dX8_told_88 rfl (lv_at hl 0 rfl) ?_
          refine va_get (D := D) (ci := 8) (v := .ref h0_den) (C := RX8) (T := TX8) (N := 14) hx hb hts iX8 hown hK hP 0 rfl rfl 3 (by decide) k23 (fun _ h9 => h9) rfl dX8_told_89 ?_
          refine va_get (D := D) (ci := 0) (v := .int v_den_interest) (C := RX0) (T := TX0) (N := 13) hx hb hts iX0 hown hK hP 1 rfl rfl 4 (by decide) k119 (fun _ h9 => h9) rfl dX8_told_92 ?_
          obtain rfl := si1 hM
          exact hret _ _ _ _ _ dX8_told_95 rfl rfl hP hD hS
        · have hM := g_neg c1_3 hM
          rcases Classical.em (p1 = (4 : Int32)) with c1_4 | c1_4
          · have hM := g_pos c1_4 hM
            refine lv_tableIn (off := 95) (tgt := 96) hx hb dX8_told_1 (by rw [c1_4]; decide) (by rw [c1_4]; decide) (by rw [c1_4]; decide) (by decide) ?_
            refine lv_aload_n hx hb dX8_told_96 rfl (lv_at hl 0 rfl) ?_
            refine va_get (D := D) (ci := 8) (v := .ref h0_den) (C := RX8) (T := TX8) (N := 14) hx hb hts iX8 hown hK hP 0 rfl rfl 3 (by decide) k23 (fun _ h9 => h9) rfl dX8_told_97 ?_
            refine va_get (D := D) (ci := 0) (v := .int v_den_winters) (C := RX0) (T := TX0) (N := 13) hx hb hts iX0 hown hK hP 1 rfl rfl 6 (by decide) k122 (fun _ h9 => h9) rfl dX8_told_100 ?_
            obtain rfl := si1 hM
            exact hret _ _ _ _ _ dX8_told_103 rfl rfl hP hD hS
          · have hM := g_neg c1_4 hM
            rcases Classical.em (p1 = (5 : Int32)) with c1_5 | c1_5
            · have hM := g_pos c1_5 hM
              refine lv_tableIn (off := 103) (tgt := 104) hx hb dX8_told_1 (by rw [c1_5]; decide) (by rw [c1_5]; decide) (by rw [c1_5]; decide) (by decide) ?_
              refine lv_aload_n hx hb dX8_told_104 rfl (lv_at hl 0 rfl) ?_
              refine va_get (D := D) (ci := 8) (v := .int v_textLength) (C := RX8) (T := TX8) (N := 14) hx hb hts iX8 hown hK hP 0 rfl rfl 1 (by decide) k13 (fun _ h9 => h9) rfl dX8_told_105 ?_
              obtain rfl := si1 hM
              exact hret _ _ _ _ _ dX8_told_108 rfl rfl hP hD hS
            · have hM := g_neg c1_5 hM
              rcases Classical.em (p1 = (6 : Int32)) with c1_6 | c1_6
              · have hM := g_pos c1_6 hM
                refine lv_tableIn (off := 108) (tgt := 109) hx hb dX8_told_1 (by rw [c1_6]; decide) (by rw [c1_6]; decide) (by rw [c1_6]; decide) (by decide) ?_
                refine lv_aload_n hx hb dX8_told_109 rfl (lv_at hl 0 rfl) ?_
                refine va_get (D := D) (ci := 8) (v := .ref h0_folk) (C := RX8) (T := TX8) (N := 14) hx hb hts iX8 hown hK hP 0 rfl rfl 7 (by decide) k47 (fun _ h9 => h9) rfl dX8_told_110 ?_
                refine va_get (D := D) (ci := 2) (v := .int v_folk_date) (C := RX2) (T := TX2) (N := 6) hx hb hts iX2 hown hK hP 5 rfl rfl 1 (by decide) k125 (fun _ h9 => h9) rfl dX8_told_113 ?_
                obtain rfl := si1 hM
                exact hret _ _ _ _ _ dX8_told_116 rfl rfl hP hD hS
              · have hM := g_neg c1_6 hM
                rcases Classical.em (p1 = (7 : Int32)) with c1_7 | c1_7
                · have hM := g_pos c1_7 hM
                  refine lv_tableIn (off := 116) (tgt := 117) hx hb dX8_told_1 (by rw [c1_7]; decide) (by rw [c1_7]; decide) (by rw [c1_7]; decide) (by decide) ?_
                  refine lv_aload_n hx hb dX8_told_117 rfl (lv_at hl 0 rfl) ?_
                  refine va_get (D := D) (ci := 8) (v := .ref h0_folk) (C := RX8) (T := TX8) (N := 14) hx hb hts iX8 hown hK hP 0 rfl rfl 7 (by decide) k47 (fun _ h9 => h9) rfl dX8_told_118 ?_
                  refine lv_aload_n hx hb dX8_told_121 rfl (lv_at hl 0 rfl) ?_
                  refine va_get (D := D) (ci := 8) (v := .ref h0_den) (C := RX8) (T := TX8) (N := 14) hx hb hts iX8 hown hK hP 0 rfl rfl 3 (by decide) k23 (fun _ h9 => h9) rfl dX8_told_122 ?_
                  refine va_get (D := D) (ci := 0) (v := .int v_den_persons) (C := RX0) (T := TX0) (N := 13) hx hb hts iX0 hown hK hP 1 rfl rfl 3 (by decide) k116 (fun _ h9 => h9) rfl dX8_told_125 ?_
                  obtain ⟨r128, hc128, hM⟩ := ob1_some hM
                  refine cl_vi (As := [.int v_den_persons]) (rest := []) (ci := 2) (q0 := 5) (wr := [(h0, .inr (8, [oh0_0, .int v_textLength, oh0_2, .ref h0_den, oh0_4, oh0_5, .ref h0_stay, .ref h0_folk, oh0_8, oh0_9, oh0_10, oh0_11, .ref h0_trials, .ref h0_registers])), (h0_den, .inr (0, [.int v_den_parts, .int v_den_mouths, oh0_den_2, .int v_den_persons, .int v_den_interest, oh0_den_5, .int v_den_winters, .ref h0_den_rate, oh0_den_8, oh0_den_9, oh0_den_10, oh0_den_11, oh0_den_12])), (h0_den_rate, .inl (cy 2, 7, .inl v_den_rate)), (h0_stay, .inr (6, [.int v_stay_count, .ref h0_stay_partOf])), (h0_stay_partOf, .inl (cy 2, 40, .inl v_stay_partOf)), (h0_trials, .inr (7, [.int v_trials_count, oh0_trials_1, oh0_trials_2])), (h0_registers, .inr (4, [.int v_registers_count, oh0_registers_1, oh0_registers_2, oh0_registers_3]))]) (ws2 := [(h0, .inr (8, [oh0_0, .int v_textLength, oh0_2, .ref h0_den, oh0_4, oh0_5, .ref h0_stay, .ref h0_folk, oh0_8, oh0_9, oh0_10, oh0_11, .ref h0_trials, .ref h0_registers])), (h0_den, .inr (0, [.int v_den_parts, .int v_den_mouths, oh0_den_2, .int v_den_persons, .int v_den_interest, oh0_den_5, .int v_den_winters, .ref h0_den_rate, oh0_den_8, oh0_den_9, oh0_den_10, oh0_den_11, oh0_den_12])), (h0_den_rate, .inl (cy 2, 7, .inl v_den_rate)), (h0_stay, .inr (6, [.int v_stay_count, .ref h0_stay_partOf])), (h0_stay_partOf, .inl (cy 2, 40, .inl v_stay_partOf)), (h0_folk, .inr (2, [oh0_folk_0, .int v_folk_date, oh0_folk_2, oh0_folk_3, oh0_folk_4, .ref h0_folk_out])), (h0_folk_out, .inl (cy 2, 6, .inl v_folk_out)), (h0_trials, .inr (7, [.int v_trials_count, oh0_trials_1, oh0_trials_2])), (h0_registers, .inr (4, [.int v_registers_count, oh0_registers_1, oh0_registers_2, oh0_registers_3]))]) (isC := [5, 6]) (isR := [0, 1, 2, 3, 4, 7, 8]) (pm := [0, 1, 2, 3, 4, 7, 8, 5, 6]) hx hb hml hown hts (c2_downSet l D cy N h0_folk h0_folk_out oh0_folk_0 (.int v_folk_date) oh0_folk_2 oh0_folk_3 oh0_folk_4 v_den_persons v_folk_out r128 hc128) (cwV 1 hts gX8_told_X2_downSet rfl rfl rfl (by decide +kernel) ⟨Nat.le_of_ble_eq_true rfl, Nat.le_of_ble_eq_true rfl⟩) hK hP hD hS hA rfl rfl rfl rfl rfl (by decide) rfl rfl rfl hl.1 (Nat.le_of_ble_eq_true rfl) dX8_told_128 ⟨Nat.zero_le _, Nat.zero_le _⟩ rfl rfl (fun H locs hP hD hS => ?_)
                  obtain rfl := si1 hM
                  exact hret _ _ _ _ _ dX8_told_131 rfl rfl hP hD hS
                · have hM := g_neg c1_7 hM
                  rcases Classical.em (p1 = (8 : Int32)) with c1_8 | c1_8
                  · have hM := g_pos c1_8 hM
                    refine lv_tableIn (off := 131) (tgt := 132) hx hb dX8_told_1 (by rw [c1_8]; decide) (by rw [c1_8]; decide) (by rw [c1_8]; decide) (by decide) ?_
                    refine lv_aload_n hx hb dX8_told_132 rfl (lv_at hl 0 rfl) ?_
                    refine va_get (D := D) (ci := 8) (v := .ref h0_stay) (C := RX8) (T := TX8) (N := 14) hx hb hts iX8 hown hK hP 0 rfl rfl 6 (by decide) k40 (fun _ h9 => h9) rfl dX8_told_133 ?_
                    refine va_get (D := D) (ci := 6) (v := .int v_stay_count) (C := RX6) (T := TX6) (N := 2) hx hb hts iX6 hown hK hP 3 rfl rfl 0 (by decide) k105 (fun _ h9 => h9) rfl dX8_told_136 ?_
                    obtain rfl := si1 hM
                    exact hret _ _ _ _ _ dX8_told_139 rfl rfl hP hD hS
                  · have hM := g_neg c1_8 hM
                    rcases Classical.em (p1 = (9 : Int32)) with c1_9 | c1_9
                    · have hM := g_pos c1_9 hM
                      refine lv_tableIn (off := 139) (tgt := 140) hx hb dX8_told_1 (by rw [c1_9]; decide) (by rw [c1_9]; decide) (by rw [c1_9]; decide) (by decide) ?_
                      refine lv_aload_n hx hb dX8_told_140 rfl (lv_at hl 0 rfl) ?_
                      refine va_get (D := D) (ci := 8) (v := .ref h0_stay) (C := RX8) (T := TX8) (N := 14) hx hb hts iX8 hown hK hP 0 rfl rfl 6 (by decide) k40 (fun _ h9 => h9) rfl dX8_told_141 ?_
                      refine lv_aload_n hx hb dX8_told_144 rfl (lv_at hl 0 rfl) ?_
                      refine va_get (D := D) (ci := 8) (v := .ref h0_den) (C := RX8) (T := TX8) (N := 14) hx hb hts iX8 hown hK hP 0 rfl rfl 3 (by decide) k23 (fun _ h9 => h9) rfl dX8_told_145 ?_
                      obtain ⟨r148, hc148, hM⟩ := ob1_some hM
                      refine cl_vi (As := [.ref h0_den]) (rest := []) (ci := 6) (q0 := 3) (wr := [(h0, .inr (8, [oh0_0, .int v_textLength, oh0_2, .ref h0_den, oh0_4, oh0_5, .ref h0_stay, .ref h0_folk, oh0_8, oh0_9, oh0_10, oh0_11, .ref h0_trials, .ref h0_registers])), (h0_folk, .inr (2, [oh0_folk_0, .int v_folk_date, oh0_folk_2, oh0_folk_3, oh0_folk_4, .ref h0_folk_out])), (h0_folk_out, .inl (cy 2, 6, .inl v_folk_out)), (h0_trials, .inr (7, [.int v_trials_count, oh0_trials_1, oh0_trials_2])), (h0_registers, .inr (4, [.int v_registers_count, oh0_registers_1, oh0_registers_2, oh0_registers_3]))]) (ws2 := [(h0, .inr (8, [oh0_0, .int v_textLength, oh0_2, .ref h0_den, oh0_4, oh0_5, .ref h0_stay, .ref h0_folk, oh0_8, oh0_9, oh0_10, oh0_11, .ref h0_trials, .ref h0_registers])), (h0_den, .inr (0, [.int v_den_parts, .int v_den_mouths, oh0_den_2, .int v_den_persons, .int v_den_interest, oh0_den_5, .int v_den_winters, .ref h0_den_rate, oh0_den_8, oh0_den_9, oh0_den_10, oh0_den_11, oh0_den_12])), (h0_den_rate, .inl (cy 2, 7, .inl v_den_rate)), (h0_stay, .inr (6, [.int v_stay_count, .ref h0_stay_partOf])), (h0_stay_partOf, .inl (cy 2, 40, .inl v_stay_partOf)), (h0_folk, .inr (2, [oh0_folk_0, .int v_folk_date, oh0_folk_2, oh0_folk_3, oh0_folk_4, .ref h0_folk_out])), (h0_folk_out, .inl (cy 2, 6, .inl v_folk_out)), (h0_trials, .inr (7, [.int v_trials_count, oh0_trials_1, oh0_trials_2])), (h0_registers, .inr (4, [.int v_registers_count, oh0_registers_1, oh0_registers_2, oh0_registers_3]))]) (isC := [3, 4, 1, 2]) (isR := [0, 5, 6, 7, 8]) (pm := [0, 7, 8, 5, 6, 1, 2, 3, 4]) hx hb hml hown hts (c6_time l D cy N h0_stay h0_stay_partOf h0_den h0_den_rate (.int v_den_mouths) oh0_den_2 (.int v_den_persons) (.int v_den_interest) oh0_den_5 (.int v_den_winters) oh0_den_8 oh0_den_9 oh0_den_10 oh0_den_11 oh0_den_12 v_stay_count v_stay_partOf v_den_parts v_den_rate r148 hc148) (cwV 1 hts gX8_told_X6_time rfl rfl rfl (by decide +kernel) ⟨Nat.le_of_ble_eq_true rfl, Nat.le_of_ble_eq_true rfl⟩) hK hP hD hS hA rfl rfl rfl rfl rfl (by decide) rfl rfl rfl hl.1 (Nat.le_of_ble_eq_true rfl) dX8_told_148 ⟨Nat.zero_le _, Nat.zero_le _⟩ rfl rfl (fun H locs hP hD hS => ?_)
                      obtain rfl := si1 hM
                      exact hret _ _ _ _ _ dX8_told_151 rfl rfl hP hD hS
                    · have hM := g_neg c1_9 hM
                      rcases Classical.em (p1 = (10 : Int32)) with c1_10 | c1_10
                      · have hM := g_pos c1_10 hM
                        refine lv_tableIn (off := 151) (tgt := 152) hx hb dX8_told_1 (by rw [c1_10]; decide) (by rw [c1_10]; decide) (by rw [c1_10]; decide) (by decide) ?_
                        refine lv_aload_n hx hb dX8_told_152 rfl (lv_at hl 0 rfl) ?_
                        refine va_get (D := D) (ci := 8) (v := .ref h0_trials) (C := RX8) (T := TX8) (N := 14) hx hb hts iX8 hown hK hP 0 rfl rfl 12 (by decide) k74 (fun _ h9 => h9) rfl dX8_told_153 ?_
                        refine va_get (D := D) (ci := 7) (v := .int v_trials_count) (C := RX7) (T := TX7) (N := 3) hx hb hts iX7 hown hK hP 7 rfl rfl 0 (by decide) k108 (fun _ h9 => h9) rfl dX8_told_156 ?_
                        obtain rfl := si1 hM
                        exact hret _ _ _ _ _ dX8_told_159 rfl rfl hP hD hS
                      · have hM := g_neg c1_10 hM
                        rcases Classical.em (p1 = (11 : Int32)) with c1_11 | c1_11
                        · have hM := g_pos c1_11 hM
                          refine lv_tableIn (off := 159) (tgt := 160) hx hb dX8_told_1 (by rw [c1_11]; decide) (by rw [c1_11]; decide) (by rw [c1_11]; decide) (by decide) ?_
                          refine lv_aload_n hx hb dX8_told_160 rfl (lv_at hl 0 rfl) ?_
                          refine va_get (D := D) (ci := 8) (v := .ref h0_registers) (C := RX8) (T := TX8) (N := 14) hx hb hts iX8 hown hK hP 0 rfl rfl 13 (by decide) k81 (fun _ h9 => h9) rfl dX8_told_161 ?_
                          refine va_get (D := D) (ci := 4) (v := .int v_registers_count) (C := RX4) (T := TX4) (N := 4) hx hb hts iX4 hown hK hP 8 rfl rfl 0 (by decide) k109 (fun _ h9 => h9) rfl dX8_told_164 ?_
                          obtain rfl := si1 hM
                          exact hret _ _ _ _ _ dX8_told_167 rfl rfl hP hD hS
                        · have hM := g_neg c1_11 hM
                          have n1_0 : p1.toInt ≠ 0 := fun q => c1_0 (Int32.toInt_inj.mp (q.trans (by decide)))
                          have n1_1 : p1.toInt ≠ 1 := fun q => c1_1 (Int32.toInt_inj.mp (q.trans (by decide)))
                          have n1_2 : p1.toInt ≠ 2 := fun q => c1_2 (Int32.toInt_inj.mp (q.trans (by decide)))
                          have n1_3 : p1.toInt ≠ 3 := fun q => c1_3 (Int32.toInt_inj.mp (q.trans (by decide)))
                          have n1_4 : p1.toInt ≠ 4 := fun q => c1_4 (Int32.toInt_inj.mp (q.trans (by decide)))
                          have n1_5 : p1.toInt ≠ 5 := fun q => c1_5 (Int32.toInt_inj.mp (q.trans (by decide)))
                          have n1_6 : p1.toInt ≠ 6 := fun q => c1_6 (Int32.toInt_inj.mp (q.trans (by decide)))
                          have n1_7 : p1.toInt ≠ 7 := fun q => c1_7 (Int32.toInt_inj.mp (q.trans (by decide)))
                          have n1_8 : p1.toInt ≠ 8 := fun q => c1_8 (Int32.toInt_inj.mp (q.trans (by decide)))
                          have n1_9 : p1.toInt ≠ 9 := fun q => c1_9 (Int32.toInt_inj.mp (q.trans (by decide)))
                          have n1_10 : p1.toInt ≠ 10 := fun q => c1_10 (Int32.toInt_inj.mp (q.trans (by decide)))
                          have n1_11 : p1.toInt ≠ 11 := fun q => c1_11 (Int32.toInt_inj.mp (q.trans (by decide)))
                          refine lv_tableOut (tgt := 168) hx hb dX8_told_1 (by omega) (by decide) ?_
                          refine lv_ldc (v := -1000000002) hx hb hown k85 dX8_told_168 ?_
                          obtain rfl := si1 hM
                          exact hret _ _ _ _ _ dX8_told_170 rfl rfl hP hD hS

-- ===== X8_part part (II)I =====
abbrev r8_part : Room := { frames := 3, cells := 0, slots := 0, locals := 65 }
def f8_part (N : Nat) (p1 : Int32) (p2 : Int32) (v_den_parts : Int32) (v_den_rate : Nat → Int32) (v_den_near : Nat → Int32) : Option Int32 :=
  ob1 (f0_hasPart N p1 v_den_parts) fun r5 => if r5 = (0 : Int32) then (some (-1000000001 : Int32)) else (if p2 = (0 : Int32) then (ob1 (f0_rateOf N p1 v_den_parts v_den_rate) fun r45 => some r45) else (if p2 = (1 : Int32) then (gi p1 7 (some (v_den_near p1.toNatClampNeg))) else (if p2 = (2 : Int32) then (ob1 (f0_alikeSet N p1 v_den_parts v_den_rate) fun r64 => some r64) else (some (-1000000002 : Int32)))))
set_option maxHeartbeats 4000000 in
set_option maxRecDepth 100000 in
theorem c8_part (l : Launch) (D : va_G) (cy : Nat → ClassId) (N : Nat) (h0 h0_den h0_den_rate h0_den_near : Nat) (oh0_0 oh0_1 oh0_2 oh0_4 oh0_5 oh0_6 oh0_7 oh0_8 oh0_9 oh0_10 oh0_11 oh0_12 oh0_13 oh0_den_1 oh0_den_2 oh0_den_3 oh0_den_4 oh0_den_5 oh0_den_6 oh0_den_9 oh0_den_10 oh0_den_11 oh0_den_12 : Value) (p1 : Int32) (p2 : Int32) (v_den_parts : Int32) (v_den_rate : Nat → Int32) (v_den_near : Nat → Int32) (r : Int32) (hM : f8_part N p1 p2 v_den_parts v_den_rate v_den_near = some r) (sz : Nat) : CTi l yX8_part wsX8_part r8_part [.ref h0, .int p1, .int p2] D cy sz [(h0, .inr (8, [oh0_0, oh0_1, oh0_2, .ref h0_den, oh0_4, oh0_5, oh0_6, oh0_7, oh0_8, oh0_9, oh0_10, oh0_11, oh0_12, oh0_13])), (h0_den, .inr (0, [.int v_den_parts, oh0_den_1, oh0_den_2, oh0_den_3, oh0_den_4, oh0_den_5, oh0_den_6, .ref h0_den_rate, .ref h0_den_near, oh0_den_9, oh0_den_10, oh0_den_11, oh0_den_12])), (h0_den_rate, .inl (cy 2, 7, .inl v_den_rate)), (h0_den_near, .inl (cy 2, 7, .inl v_den_near))] [(h0, .inr (8, [oh0_0, oh0_1, oh0_2, .ref h0_den, oh0_4, oh0_5, oh0_6, oh0_7, oh0_8, oh0_9, oh0_10, oh0_11, oh0_12, oh0_13])), (h0_den, .inr (0, [.int v_den_parts, oh0_den_1, oh0_den_2, oh0_den_3, oh0_den_4, oh0_den_5, oh0_den_6, .ref h0_den_rate, .ref h0_den_near, oh0_den_9, oh0_den_10, oh0_den_11, oh0_den_12])), (h0_den_rate, .inl (cy 2, 7, .inl v_den_rate)), (h0_den_near, .inl (cy 2, 7, .inl v_den_near))] r := by
  unfold f8_part at hM
  refine ct_oi (cc := cX8_part) (maxL := 3) (ty := .int) (by decide +kernel) rfl (Nat.le_of_ble_eq_true rfl) (lv0 := [(0, .ref h0), (1, .int p1), (2, .int p2)]) rfl ?_
  intro p e s m args below meth c A Q ls hx hb hts hown hml hK hP hD hS hA hret hl
  have hown : s.vm.findClass RX8 = some m.cls := hown
  have k23 := hts (.fieldLink RX8 23 "CaveYears" "den" "LCaveYears$Cave;") (List.mem_of_getElem? (i := 1) (by decide +kernel))
  have iX8 := (fun w h => (List.mem_cons_of_mem _ (List.mem_append_left _ (List.mem_append_right _ h))) : ∀ w ∈ wsX80, w ∈ wsX8_part)
  have k85 := hts (.constant RX8 85 (-1000000002)) (List.mem_of_getElem? (i := 4) (by decide +kernel))
  have k144 := hts (.fieldLink RX8 144 "CaveYears$Cave" "near" "[I") (List.mem_of_getElem? (i := 3) (by decide +kernel))
  have iX0 := (fun w h => (List.mem_cons_of_mem _ (List.mem_append_right _ h)) : ∀ w ∈ wsX00, w ∈ wsX8_part)
  have k140 := hts (.constant RX8 140 (-1000000001)) (List.mem_of_getElem? (i := 2) (by decide +kernel))
  refine lv_aload_n hx hb dX8_part_0 rfl (lv_at hl 0 rfl) ?_
  refine va_get (D := D) (ci := 8) (v := .ref h0_den) (C := RX8) (T := TX8) (N := 14) hx hb hts iX8 hown hK hP 0 rfl rfl 3 (by decide) k23 (fun _ h9 => h9) rfl dX8_part_1 ?_
  refine lv_iload_n hx hb dX8_part_4 rfl (lv_at hl 1 rfl) ?_
  obtain ⟨r5, hc5, hM⟩ := ob1_some hM
  refine cl_vi (As := [.int p1]) (rest := []) (ci := 0) (q0 := 1) (wr := [(h0, .inr (8, [oh0_0, oh0_1, oh0_2, .ref h0_den, oh0_4, oh0_5, oh0_6, oh0_7, oh0_8, oh0_9, oh0_10, oh0_11, oh0_12, oh0_13])), (h0_den_rate, .inl (cy 2, 7, .inl v_den_rate)), (h0_den_near, .inl (cy 2, 7, .inl v_den_near))]) (ws2 := [(h0, .inr (8, [oh0_0, oh0_1, oh0_2, .ref h0_den, oh0_4, oh0_5, oh0_6, oh0_7, oh0_8, oh0_9, oh0_10, oh0_11, oh0_12, oh0_13])), (h0_den, .inr (0, [.int v_den_parts, oh0_den_1, oh0_den_2, oh0_den_3, oh0_den_4, oh0_den_5, oh0_den_6, .ref h0_den_rate, .ref h0_den_near, oh0_den_9, oh0_den_10, oh0_den_11, oh0_den_12])), (h0_den_rate, .inl (cy 2, 7, .inl v_den_rate)), (h0_den_near, .inl (cy 2, 7, .inl v_den_near))]) (isC := [1]) (isR := [0, 2, 3]) (pm := [0, 3, 1, 2]) hx hb hml hown hts (c0_hasPart l D cy N h0_den oh0_den_1 oh0_den_2 oh0_den_3 oh0_den_4 oh0_den_5 oh0_den_6 (.ref h0_den_rate) (.ref h0_den_near) oh0_den_9 oh0_den_10 oh0_den_11 oh0_den_12 p1 v_den_parts r5 hc5) (cwV 1 hts gX8_part_X0_hasPart rfl rfl rfl (by decide +kernel) ⟨Nat.le_of_ble_eq_true rfl, Nat.le_of_ble_eq_true rfl⟩) hK hP hD hS hA rfl rfl rfl rfl rfl (by decide) rfl rfl rfl hl.1 (Nat.le_of_ble_eq_true rfl) dX8_part_5 ⟨Nat.zero_le _, Nat.zero_le _⟩ rfl rfl (fun H locs hP hD hS => ?_)
  refine lv_if_ne (tgt := 14) hx hb dX8_part_8 (by decide) (fun c8 => ?_) (fun c8 => ?_)
  · have hM := g_neg c8 hM
    refine lv_iload_n hx hb dX8_part_14 rfl (lv_at hl 2 rfl) ?_
    rcases Classical.em (p2 = (0 : Int32)) with c15_0 | c15_0
    · have hM := g_pos c15_0 hM
      refine lv_tableIn (off := 25) (tgt := 40) hx hb dX8_part_15 (by rw [c15_0]; decide) (by rw [c15_0]; decide) (by rw [c15_0]; decide) (by decide) ?_
      refine lv_aload_n hx hb dX8_part_40 rfl (lv_at hl 0 rfl) ?_
      refine va_get (D := D) (ci := 8) (v := .ref h0_den) (C := RX8) (T := TX8) (N := 14) hx hb hts iX8 hown hK hP 0 rfl rfl 3 (by decide) k23 (fun _ h9 => h9) rfl dX8_part_41 ?_
      refine lv_iload_n hx hb dX8_part_44 rfl (lv_at hl 1 rfl) ?_
      obtain ⟨r45, hc45, hM⟩ := ob1_some hM
      refine cl_vi (As := [.int p1]) (rest := []) (ci := 0) (q0 := 1) (wr := [(h0, .inr (8, [oh0_0, oh0_1, oh0_2, .ref h0_den, oh0_4, oh0_5, oh0_6, oh0_7, oh0_8, oh0_9, oh0_10, oh0_11, oh0_12, oh0_13])), (h0_den_near, .inl (cy 2, 7, .inl v_den_near))]) (ws2 := [(h0, .inr (8, [oh0_0, oh0_1, oh0_2, .ref h0_den, oh0_4, oh0_5, oh0_6, oh0_7, oh0_8, oh0_9, oh0_10, oh0_11, oh0_12, oh0_13])), (h0_den, .inr (0, [.int v_den_parts, oh0_den_1, oh0_den_2, oh0_den_3, oh0_den_4, oh0_den_5, oh0_den_6, .ref h0_den_rate, .ref h0_den_near, oh0_den_9, oh0_den_10, oh0_den_11, oh0_den_12])), (h0_den_rate, .inl (cy 2, 7, .inl v_den_rate)), (h0_den_near, .inl (cy 2, 7, .inl v_den_near))]) (isC := [1, 2]) (isR := [0, 3]) (pm := [0, 2, 3, 1]) hx hb hml hown hts (c0_rateOf l D cy N h0_den h0_den_rate oh0_den_1 oh0_den_2 oh0_den_3 oh0_den_4 oh0_den_5 oh0_den_6 (.ref h0_den_near) oh0_den_9 oh0_den_10 oh0_den_11 oh0_den_12 p1 v_den_parts v_den_rate r45 hc45) (cwV 1 hts gX8_part_X0_rateOf rfl rfl rfl (by decide +kernel) ⟨Nat.le_of_ble_eq_true rfl, Nat.le_of_ble_eq_true rfl⟩) hK hP hD hS hA rfl rfl rfl rfl rfl (by decide) rfl rfl rfl hl.1 (Nat.le_of_ble_eq_true rfl) dX8_part_45 ⟨Nat.zero_le _, Nat.zero_le _⟩ rfl rfl (fun H locs hP hD hS => ?_)
      obtain rfl := si1 hM
      exact hret _ _ _ _ _ dX8_part_48 rfl rfl hP hD hS
    · have hM := g_neg c15_0 hM
      rcases Classical.em (p2 = (1 : Int32)) with c15_1 | c15_1
      · have hM := g_pos c15_1 hM
        refine lv_tableIn (off := 34) (tgt := 49) hx hb dX8_part_15 (by rw [c15_1]; decide) (by rw [c15_1]; decide) (by rw [c15_1]; decide) (by decide) ?_
        refine lv_aload_n hx hb dX8_part_49 rfl (lv_at hl 0 rfl) ?_
        refine va_get (D := D) (ci := 8) (v := .ref h0_den) (C := RX8) (T := TX8) (N := 14) hx hb hts iX8 hown hK hP 0 rfl rfl 3 (by decide) k23 (fun _ h9 => h9) rfl dX8_part_50 ?_
        refine va_get (D := D) (ci := 0) (v := .ref h0_den_near) (C := RX0) (T := TX0) (N := 13) hx hb hts iX0 hown hK hP 1 rfl rfl 8 (by decide) k144 (fun _ h9 => h9) rfl dX8_part_53 ?_
        refine lv_iload_n hx hb dX8_part_56 rfl (lv_at hl 1 rfl) ?_
        obtain ⟨h57, hM⟩ := gi_some hM
        refine va_iald hx hb hK hP 3 2 rfl rfl h57 dX8_part_57 ?_
        obtain rfl := si1 hM
        exact hret _ _ _ _ _ dX8_part_58 rfl rfl hP hD hS
      · have hM := g_neg c15_1 hM
        rcases Classical.em (p2 = (2 : Int32)) with c15_2 | c15_2
        · have hM := g_pos c15_2 hM
          refine lv_tableIn (off := 44) (tgt := 59) hx hb dX8_part_15 (by rw [c15_2]; decide) (by rw [c15_2]; decide) (by rw [c15_2]; decide) (by decide) ?_
          refine lv_aload_n hx hb dX8_part_59 rfl (lv_at hl 0 rfl) ?_
          refine va_get (D := D) (ci := 8) (v := .ref h0_den) (C := RX8) (T := TX8) (N := 14) hx hb hts iX8 hown hK hP 0 rfl rfl 3 (by decide) k23 (fun _ h9 => h9) rfl dX8_part_60 ?_
          refine lv_iload_n hx hb dX8_part_63 rfl (lv_at hl 1 rfl) ?_
          obtain ⟨r64, hc64, hM⟩ := ob1_some hM
          refine cl_vi (As := [.int p1]) (rest := []) (ci := 0) (q0 := 1) (wr := [(h0, .inr (8, [oh0_0, oh0_1, oh0_2, .ref h0_den, oh0_4, oh0_5, oh0_6, oh0_7, oh0_8, oh0_9, oh0_10, oh0_11, oh0_12, oh0_13])), (h0_den_near, .inl (cy 2, 7, .inl v_den_near))]) (ws2 := [(h0, .inr (8, [oh0_0, oh0_1, oh0_2, .ref h0_den, oh0_4, oh0_5, oh0_6, oh0_7, oh0_8, oh0_9, oh0_10, oh0_11, oh0_12, oh0_13])), (h0_den, .inr (0, [.int v_den_parts, oh0_den_1, oh0_den_2, oh0_den_3, oh0_den_4, oh0_den_5, oh0_den_6, .ref h0_den_rate, .ref h0_den_near, oh0_den_9, oh0_den_10, oh0_den_11, oh0_den_12])), (h0_den_rate, .inl (cy 2, 7, .inl v_den_rate)), (h0_den_near, .inl (cy 2, 7, .inl v_den_near))]) (isC := [1, 2]) (isR := [0, 3]) (pm := [0, 2, 3, 1]) hx hb hml hown hts (c0_alikeSet l D cy N h0_den h0_den_rate oh0_den_1 oh0_den_2 oh0_den_3 oh0_den_4 oh0_den_5 oh0_den_6 (.ref h0_den_near) oh0_den_9 oh0_den_10 oh0_den_11 oh0_den_12 p1 v_den_parts v_den_rate r64 hc64) (cwV 1 hts gX8_part_X0_alikeSet rfl rfl rfl (by decide +kernel) ⟨Nat.le_of_ble_eq_true rfl, Nat.le_of_ble_eq_true rfl⟩) hK hP hD hS hA rfl rfl rfl rfl rfl (by decide) rfl rfl rfl hl.1 (Nat.le_of_ble_eq_true rfl) dX8_part_64 ⟨Nat.zero_le _, Nat.zero_le _⟩ rfl rfl (fun H locs hP hD hS => ?_)
          obtain rfl := si1 hM
          exact hret _ _ _ _ _ dX8_part_67 rfl rfl hP hD hS
        · have hM := g_neg c15_2 hM
          have n15_0 : p2.toInt ≠ 0 := fun q => c15_0 (Int32.toInt_inj.mp (q.trans (by decide)))
          have n15_1 : p2.toInt ≠ 1 := fun q => c15_1 (Int32.toInt_inj.mp (q.trans (by decide)))
          have n15_2 : p2.toInt ≠ 2 := fun q => c15_2 (Int32.toInt_inj.mp (q.trans (by decide)))
          refine lv_tableOut (tgt := 68) hx hb dX8_part_15 (by omega) (by decide) ?_
          refine lv_ldc (v := -1000000002) hx hb hown k85 dX8_part_68 ?_
          obtain rfl := si1 hM
          exact hret _ _ _ _ _ dX8_part_70 rfl rfl hP hD hS
  · have hM := g_pos c8 hM
    refine lv_ldc (v := -1000000001) hx hb hown k140 dX8_part_11 ?_
    obtain rfl := si1 hM
    exact hret _ _ _ _ _ dX8_part_13 rfl rfl hP hD hS

-- ===== X8_person person (II)I =====
abbrev r8_person : Room := { frames := 1, cells := 0, slots := 0, locals := 21 }
def f8_person (N : Nat) (p1 : Int32) (p2 : Int32) (v_den_persons : Int32) (v_folk_age : Nat → Int32) (v_folk_riches : Nat → Int32) (v_folk_out : Nat → Int32) : Option Int32 :=
  ob1 (f0_hasPerson N p1 v_den_persons) fun r5 => if r5 = (0 : Int32) then (some (-1000000001 : Int32)) else (if p2 = (0 : Int32) then (gi p1 6 (some (v_folk_age p1.toNatClampNeg))) else (if p2 = (1 : Int32) then (gi p1 6 (some (v_folk_riches p1.toNatClampNeg))) else (if p2 = (2 : Int32) then (gi p1 6 (some (v_folk_out p1.toNatClampNeg))) else (some (-1000000002 : Int32)))))
set_option maxHeartbeats 4000000 in
set_option maxRecDepth 100000 in
theorem c8_person (l : Launch) (D : va_G) (cy : Nat → ClassId) (N : Nat) (h0 h0_den h0_folk h0_folk_age h0_folk_riches h0_folk_out : Nat) (oh0_0 oh0_1 oh0_2 oh0_4 oh0_5 oh0_6 oh0_8 oh0_9 oh0_10 oh0_11 oh0_12 oh0_13 oh0_den_0 oh0_den_1 oh0_den_2 oh0_den_4 oh0_den_5 oh0_den_6 oh0_den_7 oh0_den_8 oh0_den_9 oh0_den_10 oh0_den_11 oh0_den_12 oh0_folk_0 oh0_folk_1 oh0_folk_2 : Value) (p1 : Int32) (p2 : Int32) (v_den_persons : Int32) (v_folk_age : Nat → Int32) (v_folk_riches : Nat → Int32) (v_folk_out : Nat → Int32) (r : Int32) (hM : f8_person N p1 p2 v_den_persons v_folk_age v_folk_riches v_folk_out = some r) (sz : Nat) : CTi l yX8_person wsX8_person r8_person [.ref h0, .int p1, .int p2] D cy sz [(h0, .inr (8, [oh0_0, oh0_1, oh0_2, .ref h0_den, oh0_4, oh0_5, oh0_6, .ref h0_folk, oh0_8, oh0_9, oh0_10, oh0_11, oh0_12, oh0_13])), (h0_den, .inr (0, [oh0_den_0, oh0_den_1, oh0_den_2, .int v_den_persons, oh0_den_4, oh0_den_5, oh0_den_6, oh0_den_7, oh0_den_8, oh0_den_9, oh0_den_10, oh0_den_11, oh0_den_12])), (h0_folk, .inr (2, [oh0_folk_0, oh0_folk_1, oh0_folk_2, .ref h0_folk_age, .ref h0_folk_riches, .ref h0_folk_out])), (h0_folk_age, .inl (cy 2, 6, .inl v_folk_age)), (h0_folk_riches, .inl (cy 2, 6, .inl v_folk_riches)), (h0_folk_out, .inl (cy 2, 6, .inl v_folk_out))] [(h0, .inr (8, [oh0_0, oh0_1, oh0_2, .ref h0_den, oh0_4, oh0_5, oh0_6, .ref h0_folk, oh0_8, oh0_9, oh0_10, oh0_11, oh0_12, oh0_13])), (h0_den, .inr (0, [oh0_den_0, oh0_den_1, oh0_den_2, .int v_den_persons, oh0_den_4, oh0_den_5, oh0_den_6, oh0_den_7, oh0_den_8, oh0_den_9, oh0_den_10, oh0_den_11, oh0_den_12])), (h0_folk, .inr (2, [oh0_folk_0, oh0_folk_1, oh0_folk_2, .ref h0_folk_age, .ref h0_folk_riches, .ref h0_folk_out])), (h0_folk_age, .inl (cy 2, 6, .inl v_folk_age)), (h0_folk_riches, .inl (cy 2, 6, .inl v_folk_riches)), (h0_folk_out, .inl (cy 2, 6, .inl v_folk_out))] r := by
  unfold f8_person at hM
  refine ct_oi (cc := cX8_person) (maxL := 3) (ty := .int) (by decide +kernel) rfl (Nat.le_of_ble_eq_true rfl) (lv0 := [(0, .ref h0), (1, .int p1), (2, .int p2)]) rfl ?_
  intro p e s m args below meth c A Q ls hx hb hts hown hml hK hP hD hS hA hret hl
  have hown : s.vm.findClass RX8 = some m.cls := hown
  have k23 := hts (.fieldLink RX8 23 "CaveYears" "den" "LCaveYears$Cave;") (List.mem_of_getElem? (i := 1) (by decide +kernel))
  have iX8 := (fun w h => (List.mem_cons_of_mem _ (List.mem_append_left _ (List.mem_append_left _ (List.mem_append_right _ h)))) : ∀ w ∈ wsX80, w ∈ wsX8_person)
  have k85 := hts (.constant RX8 85 (-1000000002)) (List.mem_of_getElem? (i := 7) (by decide +kernel))
  have k47 := hts (.fieldLink RX8 47 "CaveYears" "folk" "LCaveYears$Folk;") (List.mem_of_getElem? (i := 3) (by decide +kernel))
  have k160 := hts (.fieldLink RX8 160 "CaveYears$Folk" "out" "[I") (List.mem_of_getElem? (i := 6) (by decide +kernel))
  have iX2 := (fun w h => (List.mem_cons_of_mem _ (List.mem_append_left _ (List.mem_append_right _ h))) : ∀ w ∈ wsX20, w ∈ wsX8_person)
  have k157 := hts (.fieldLink RX8 157 "CaveYears$Folk" "riches" "[I") (List.mem_of_getElem? (i := 5) (by decide +kernel))
  have k154 := hts (.fieldLink RX8 154 "CaveYears$Folk" "age" "[I") (List.mem_of_getElem? (i := 4) (by decide +kernel))
  have k140 := hts (.constant RX8 140 (-1000000001)) (List.mem_of_getElem? (i := 2) (by decide +kernel))
  refine lv_aload_n hx hb dX8_person_0 rfl (lv_at hl 0 rfl) ?_
  refine va_get (D := D) (ci := 8) (v := .ref h0_den) (C := RX8) (T := TX8) (N := 14) hx hb hts iX8 hown hK hP 0 rfl rfl 3 (by decide) k23 (fun _ h9 => h9) rfl dX8_person_1 ?_
  refine lv_iload_n hx hb dX8_person_4 rfl (lv_at hl 1 rfl) ?_
  obtain ⟨r5, hc5, hM⟩ := ob1_some hM
  refine cl_vi (As := [.int p1]) (rest := []) (ci := 0) (q0 := 1) (wr := [(h0, .inr (8, [oh0_0, oh0_1, oh0_2, .ref h0_den, oh0_4, oh0_5, oh0_6, .ref h0_folk, oh0_8, oh0_9, oh0_10, oh0_11, oh0_12, oh0_13])), (h0_folk, .inr (2, [oh0_folk_0, oh0_folk_1, oh0_folk_2, .ref h0_folk_age, .ref h0_folk_riches, .ref h0_folk_out])), (h0_folk_age, .inl (cy 2, 6, .inl v_folk_age)), (h0_folk_riches, .inl (cy 2, 6, .inl v_folk_riches)), (h0_folk_out, .inl (cy 2, 6, .inl v_folk_out))]) (ws2 := [(h0, .inr (8, [oh0_0, oh0_1, oh0_2, .ref h0_den, oh0_4, oh0_5, oh0_6, .ref h0_folk, oh0_8, oh0_9, oh0_10, oh0_11, oh0_12, oh0_13])), (h0_den, .inr (0, [oh0_den_0, oh0_den_1, oh0_den_2, .int v_den_persons, oh0_den_4, oh0_den_5, oh0_den_6, oh0_den_7, oh0_den_8, oh0_den_9, oh0_den_10, oh0_den_11, oh0_den_12])), (h0_folk, .inr (2, [oh0_folk_0, oh0_folk_1, oh0_folk_2, .ref h0_folk_age, .ref h0_folk_riches, .ref h0_folk_out])), (h0_folk_age, .inl (cy 2, 6, .inl v_folk_age)), (h0_folk_riches, .inl (cy 2, 6, .inl v_folk_riches)), (h0_folk_out, .inl (cy 2, 6, .inl v_folk_out))]) (isC := [1]) (isR := [0, 2, 3, 4, 5]) (pm := [0, 5, 1, 2, 3, 4]) hx hb hml hown hts (c0_hasPerson l D cy N h0_den oh0_den_0 oh0_den_1 oh0_den_2 oh0_den_4 oh0_den_5 oh0_den_6 oh0_den_7 oh0_den_8 oh0_den_9 oh0_den_10 oh0_den_11 oh0_den_12 p1 v_den_persons r5 hc5) (cwV 1 hts gX8_person_X0_hasPerson rfl rfl rfl (by decide +kernel) ⟨Nat.le_of_ble_eq_true rfl, Nat.le_of_ble_eq_true rfl⟩) hK hP hD hS hA rfl rfl rfl rfl rfl (by decide) rfl rfl rfl hl.1 (Nat.le_of_ble_eq_true rfl) dX8_person_5 ⟨Nat.zero_le _, Nat.zero_le _⟩ rfl rfl (fun H locs hP hD hS => ?_)
  refine lv_if_ne (tgt := 14) hx hb dX8_person_8 (by decide) (fun c8 => ?_) (fun c8 => ?_)
  · have hM := g_neg c8 hM
    refine lv_iload_n hx hb dX8_person_14 rfl (lv_at hl 2 rfl) ?_
    rcases Classical.em (p2 = (0 : Int32)) with c15_0 | c15_0
    · have hM := g_pos c15_0 hM
      refine lv_tableIn (off := 25) (tgt := 40) hx hb dX8_person_15 (by rw [c15_0]; decide) (by rw [c15_0]; decide) (by rw [c15_0]; decide) (by decide) ?_
      refine lv_aload_n hx hb dX8_person_40 rfl (lv_at hl 0 rfl) ?_
      refine va_get (D := D) (ci := 8) (v := .ref h0_folk) (C := RX8) (T := TX8) (N := 14) hx hb hts iX8 hown hK hP 0 rfl rfl 7 (by decide) k47 (fun _ h9 => h9) rfl dX8_person_41 ?_
      refine va_get (D := D) (ci := 2) (v := .ref h0_folk_age) (C := RX2) (T := TX2) (N := 6) hx hb hts iX2 hown hK hP 2 rfl rfl 3 (by decide) k154 (fun _ h9 => h9) rfl dX8_person_44 ?_
      refine lv_iload_n hx hb dX8_person_47 rfl (lv_at hl 1 rfl) ?_
      obtain ⟨h48, hM⟩ := gi_some hM
      refine va_iald hx hb hK hP 3 2 rfl rfl h48 dX8_person_48 ?_
      obtain rfl := si1 hM
      exact hret _ _ _ _ _ dX8_person_49 rfl rfl hP hD hS
    · have hM := g_neg c15_0 hM
      rcases Classical.em (p2 = (1 : Int32)) with c15_1 | c15_1
      · have hM := g_pos c15_1 hM
        refine lv_tableIn (off := 35) (tgt := 50) hx hb dX8_person_15 (by rw [c15_1]; decide) (by rw [c15_1]; decide) (by rw [c15_1]; decide) (by decide) ?_
        refine lv_aload_n hx hb dX8_person_50 rfl (lv_at hl 0 rfl) ?_
        refine va_get (D := D) (ci := 8) (v := .ref h0_folk) (C := RX8) (T := TX8) (N := 14) hx hb hts iX8 hown hK hP 0 rfl rfl 7 (by decide) k47 (fun _ h9 => h9) rfl dX8_person_51 ?_
        refine va_get (D := D) (ci := 2) (v := .ref h0_folk_riches) (C := RX2) (T := TX2) (N := 6) hx hb hts iX2 hown hK hP 2 rfl rfl 4 (by decide) k157 (fun _ h9 => h9) rfl dX8_person_54 ?_
        refine lv_iload_n hx hb dX8_person_57 rfl (lv_at hl 1 rfl) ?_
        obtain ⟨h58, hM⟩ := gi_some hM
        refine va_iald hx hb hK hP 4 2 rfl rfl h58 dX8_person_58 ?_
        obtain rfl := si1 hM
        exact hret _ _ _ _ _ dX8_person_59 rfl rfl hP hD hS
      · have hM := g_neg c15_1 hM
        rcases Classical.em (p2 = (2 : Int32)) with c15_2 | c15_2
        · have hM := g_pos c15_2 hM
          refine lv_tableIn (off := 45) (tgt := 60) hx hb dX8_person_15 (by rw [c15_2]; decide) (by rw [c15_2]; decide) (by rw [c15_2]; decide) (by decide) ?_
          refine lv_aload_n hx hb dX8_person_60 rfl (lv_at hl 0 rfl) ?_
          refine va_get (D := D) (ci := 8) (v := .ref h0_folk) (C := RX8) (T := TX8) (N := 14) hx hb hts iX8 hown hK hP 0 rfl rfl 7 (by decide) k47 (fun _ h9 => h9) rfl dX8_person_61 ?_
          refine va_get (D := D) (ci := 2) (v := .ref h0_folk_out) (C := RX2) (T := TX2) (N := 6) hx hb hts iX2 hown hK hP 2 rfl rfl 5 (by decide) k160 (fun _ h9 => h9) rfl dX8_person_64 ?_
          refine lv_iload_n hx hb dX8_person_67 rfl (lv_at hl 1 rfl) ?_
          obtain ⟨h68, hM⟩ := gi_some hM
          refine va_iald hx hb hK hP 5 2 rfl rfl h68 dX8_person_68 ?_
          obtain rfl := si1 hM
          exact hret _ _ _ _ _ dX8_person_69 rfl rfl hP hD hS
        · have hM := g_neg c15_2 hM
          have n15_0 : p2.toInt ≠ 0 := fun q => c15_0 (Int32.toInt_inj.mp (q.trans (by decide)))
          have n15_1 : p2.toInt ≠ 1 := fun q => c15_1 (Int32.toInt_inj.mp (q.trans (by decide)))
          have n15_2 : p2.toInt ≠ 2 := fun q => c15_2 (Int32.toInt_inj.mp (q.trans (by decide)))
          refine lv_tableOut (tgt := 70) hx hb dX8_person_15 (by omega) (by decide) ?_
          refine lv_ldc (v := -1000000002) hx hb hown k85 dX8_person_70 ?_
          obtain rfl := si1 hM
          exact hret _ _ _ _ _ dX8_person_72 rfl rfl hP hD hS
  · have hM := g_pos c8 hM
    refine lv_ldc (v := -1000000001) hx hb hown k140 dX8_person_11 ?_
    obtain rfl := si1 hM
    exact hret _ _ _ _ _ dX8_person_13 rfl rfl hP hD hS

-- ===== X8_spend spend (I)I =====
abbrev r8_spend : Room := { frames := 1, cells := 0, slots := 0, locals := 21 }
def f8_spend (N : Nat) (p1 : Int32) (v_den_parts : Int32) (v_stay_count : Int32) (v_stay_partOf : Nat → Int32) : Option (Int32 × Int32 × (Nat → Int32)) :=
  ob1 (f0_hasPart N p1 v_den_parts) fun r5 => if r5 = (0 : Int32) then (some ((-1000000001 : Int32), v_stay_count, v_stay_partOf)) else (ob3 (f6_addDay N p1 v_stay_count v_stay_partOf) fun r19 v_stay_count_19 v_stay_partOf_19 => some (r19, v_stay_count_19, v_stay_partOf_19))
set_option maxHeartbeats 4000000 in
set_option maxRecDepth 100000 in
theorem c8_spend (l : Launch) (D : va_G) (cy : Nat → ClassId) (N : Nat) (h0 h0_den h0_stay h0_stay_partOf : Nat) (oh0_0 oh0_1 oh0_2 oh0_4 oh0_5 oh0_7 oh0_8 oh0_9 oh0_10 oh0_11 oh0_12 oh0_13 oh0_den_1 oh0_den_2 oh0_den_3 oh0_den_4 oh0_den_5 oh0_den_6 oh0_den_7 oh0_den_8 oh0_den_9 oh0_den_10 oh0_den_11 oh0_den_12 : Value) (p1 : Int32) (v_den_parts : Int32) (v_stay_count : Int32) (v_stay_partOf : Nat → Int32) (r : Int32) (nv_stay_count : Int32) (nv_stay_partOf : Nat → Int32) (hM : f8_spend N p1 v_den_parts v_stay_count v_stay_partOf = some (r, nv_stay_count, nv_stay_partOf)) (sz : Nat) : CTi l yX8_spend wsX8_spend r8_spend [.ref h0, .int p1] D cy sz [(h0, .inr (8, [oh0_0, oh0_1, oh0_2, .ref h0_den, oh0_4, oh0_5, .ref h0_stay, oh0_7, oh0_8, oh0_9, oh0_10, oh0_11, oh0_12, oh0_13])), (h0_den, .inr (0, [.int v_den_parts, oh0_den_1, oh0_den_2, oh0_den_3, oh0_den_4, oh0_den_5, oh0_den_6, oh0_den_7, oh0_den_8, oh0_den_9, oh0_den_10, oh0_den_11, oh0_den_12])), (h0_stay, .inr (6, [.int v_stay_count, .ref h0_stay_partOf])), (h0_stay_partOf, .inl (cy 2, 40, .inl v_stay_partOf))] [(h0, .inr (8, [oh0_0, oh0_1, oh0_2, .ref h0_den, oh0_4, oh0_5, .ref h0_stay, oh0_7, oh0_8, oh0_9, oh0_10, oh0_11, oh0_12, oh0_13])), (h0_den, .inr (0, [.int v_den_parts, oh0_den_1, oh0_den_2, oh0_den_3, oh0_den_4, oh0_den_5, oh0_den_6, oh0_den_7, oh0_den_8, oh0_den_9, oh0_den_10, oh0_den_11, oh0_den_12])), (h0_stay, .inr (6, [.int nv_stay_count, .ref h0_stay_partOf])), (h0_stay_partOf, .inl (cy 2, 40, .inl nv_stay_partOf))] r := by
  unfold f8_spend at hM
  refine ct_oi (cc := cX8_spend) (maxL := 2) (ty := .int) (by decide +kernel) rfl (Nat.le_of_ble_eq_true rfl) (lv0 := [(0, .ref h0), (1, .int p1)]) rfl ?_
  intro p e s m args below meth c A Q ls hx hb hts hown hml hK hP hD hS hA hret hl
  have hown : s.vm.findClass RX8 = some m.cls := hown
  have k23 := hts (.fieldLink RX8 23 "CaveYears" "den" "LCaveYears$Cave;") (List.mem_of_getElem? (i := 1) (by decide +kernel))
  have iX8 := (fun w h => (List.mem_cons_of_mem _ (List.mem_append_left _ (List.mem_append_left _ (List.mem_append_right _ h)))) : ∀ w ∈ wsX80, w ∈ wsX8_spend)
  have k40 := hts (.fieldLink RX8 40 "CaveYears" "stay" "LCaveYears$Stay;") (List.mem_of_getElem? (i := 3) (by decide +kernel))
  have k140 := hts (.constant RX8 140 (-1000000001)) (List.mem_of_getElem? (i := 2) (by decide +kernel))
  refine lv_aload_n hx hb dX8_spend_0 rfl (lv_at hl 0 rfl) ?_
  refine va_get (D := D) (ci := 8) (v := .ref h0_den) (C := RX8) (T := TX8) (N := 14) hx hb hts iX8 hown hK hP 0 rfl rfl 3 (by decide) k23 (fun _ h9 => h9) rfl dX8_spend_1 ?_
  refine lv_iload_n hx hb dX8_spend_4 rfl (lv_at hl 1 rfl) ?_
  obtain ⟨r5, hc5, hM⟩ := ob1_some hM
  refine cl_vi (As := [.int p1]) (rest := []) (ci := 0) (q0 := 1) (wr := [(h0, .inr (8, [oh0_0, oh0_1, oh0_2, .ref h0_den, oh0_4, oh0_5, .ref h0_stay, oh0_7, oh0_8, oh0_9, oh0_10, oh0_11, oh0_12, oh0_13])), (h0_stay, .inr (6, [.int v_stay_count, .ref h0_stay_partOf])), (h0_stay_partOf, .inl (cy 2, 40, .inl v_stay_partOf))]) (ws2 := [(h0, .inr (8, [oh0_0, oh0_1, oh0_2, .ref h0_den, oh0_4, oh0_5, .ref h0_stay, oh0_7, oh0_8, oh0_9, oh0_10, oh0_11, oh0_12, oh0_13])), (h0_den, .inr (0, [.int v_den_parts, oh0_den_1, oh0_den_2, oh0_den_3, oh0_den_4, oh0_den_5, oh0_den_6, oh0_den_7, oh0_den_8, oh0_den_9, oh0_den_10, oh0_den_11, oh0_den_12])), (h0_stay, .inr (6, [.int v_stay_count, .ref h0_stay_partOf])), (h0_stay_partOf, .inl (cy 2, 40, .inl v_stay_partOf))]) (isC := [1]) (isR := [0, 2, 3]) (pm := [0, 3, 1, 2]) hx hb hml hown hts (c0_hasPart l D cy N h0_den oh0_den_1 oh0_den_2 oh0_den_3 oh0_den_4 oh0_den_5 oh0_den_6 oh0_den_7 oh0_den_8 oh0_den_9 oh0_den_10 oh0_den_11 oh0_den_12 p1 v_den_parts r5 hc5) (cwV 1 hts gX8_spend_X0_hasPart rfl rfl rfl (by decide +kernel) ⟨Nat.le_of_ble_eq_true rfl, Nat.le_of_ble_eq_true rfl⟩) hK hP hD hS hA rfl rfl rfl rfl rfl (by decide) rfl rfl rfl hl.1 (Nat.le_of_ble_eq_true rfl) dX8_spend_5 ⟨Nat.zero_le _, Nat.zero_le _⟩ rfl rfl (fun H locs hP hD hS => ?_)
  refine lv_if_ne (tgt := 14) hx hb dX8_spend_8 (by decide) (fun c8 => ?_) (fun c8 => ?_)
  · have hM := g_neg c8 hM
    refine lv_aload_n hx hb dX8_spend_14 rfl (lv_at hl 0 rfl) ?_
    refine va_get (D := D) (ci := 8) (v := .ref h0_stay) (C := RX8) (T := TX8) (N := 14) hx hb hts iX8 hown hK hP 0 rfl rfl 6 (by decide) k40 (fun _ h9 => h9) rfl dX8_spend_15 ?_
    refine lv_iload_n hx hb dX8_spend_18 rfl (lv_at hl 1 rfl) ?_
    obtain ⟨r19, v_stay_count_19, v_stay_partOf_19, hc19, hM⟩ := ob3_some hM
    refine cl_vi (As := [.int p1]) (rest := []) (ci := 6) (q0 := 2) (wr := [(h0, .inr (8, [oh0_0, oh0_1, oh0_2, .ref h0_den, oh0_4, oh0_5, .ref h0_stay, oh0_7, oh0_8, oh0_9, oh0_10, oh0_11, oh0_12, oh0_13])), (h0_den, .inr (0, [.int v_den_parts, oh0_den_1, oh0_den_2, oh0_den_3, oh0_den_4, oh0_den_5, oh0_den_6, oh0_den_7, oh0_den_8, oh0_den_9, oh0_den_10, oh0_den_11, oh0_den_12]))]) (ws2 := [(h0, .inr (8, [oh0_0, oh0_1, oh0_2, .ref h0_den, oh0_4, oh0_5, .ref h0_stay, oh0_7, oh0_8, oh0_9, oh0_10, oh0_11, oh0_12, oh0_13])), (h0_den, .inr (0, [.int v_den_parts, oh0_den_1, oh0_den_2, oh0_den_3, oh0_den_4, oh0_den_5, oh0_den_6, oh0_den_7, oh0_den_8, oh0_den_9, oh0_den_10, oh0_den_11, oh0_den_12])), (h0_stay, .inr (6, [.int v_stay_count_19, .ref h0_stay_partOf])), (h0_stay_partOf, .inl (cy 2, 40, .inl v_stay_partOf_19))]) (isC := [2, 3]) (isR := [0, 1]) (pm := [0, 1, 2, 3]) hx hb hml hown hts (c6_addDay l D cy N h0_stay h0_stay_partOf p1 v_stay_count v_stay_partOf r19 v_stay_count_19 v_stay_partOf_19 hc19) (cwV 1 hts gX8_spend_X6_addDay rfl rfl rfl (by decide +kernel) ⟨Nat.le_of_ble_eq_true rfl, Nat.le_of_ble_eq_true rfl⟩) hK hP hD hS hA rfl rfl rfl rfl rfl (by decide) rfl rfl rfl hl.1 (Nat.le_of_ble_eq_true rfl) dX8_spend_19 ⟨Nat.zero_le _, Nat.zero_le _⟩ rfl rfl (fun H locs hP hD hS => ?_)
    obtain ⟨rfl, rfl, rfl⟩ := si3 hM
    exact hret _ _ _ _ _ dX8_spend_22 rfl rfl hP hD hS
  · have hM := g_pos c8 hM
    refine lv_ldc (v := -1000000001) hx hb hown k140 dX8_spend_11 ?_
    obtain ⟨rfl, rfl, rfl⟩ := si3 hM
    exact hret _ _ _ _ _ dX8_spend_13 rfl rfl hP hD hS

-- ===== X8_forget forget ()I =====
abbrev r8_forget : Room := { frames := 0, cells := 0, slots := 0, locals := 0 }
def f8_forget (N : Nat) (v_stay_count : Int32) : Option (Int32 × Int32) :=
  some (v_stay_count, (0 : Int32))
set_option maxHeartbeats 4000000 in
set_option maxRecDepth 100000 in
theorem c8_forget (l : Launch) (D : va_G) (cy : Nat → ClassId) (N : Nat) (h0 h0_stay : Nat) (oh0_0 oh0_1 oh0_2 oh0_3 oh0_4 oh0_5 oh0_7 oh0_8 oh0_9 oh0_10 oh0_11 oh0_12 oh0_13 oh0_stay_1 : Value) (v_stay_count : Int32) (r : Int32) (nv_stay_count : Int32) (hM : f8_forget N v_stay_count = some (r, nv_stay_count)) (sz : Nat) : CTi l yX8_forget wsX8_forget r8_forget [.ref h0] D cy sz [(h0, .inr (8, [oh0_0, oh0_1, oh0_2, oh0_3, oh0_4, oh0_5, .ref h0_stay, oh0_7, oh0_8, oh0_9, oh0_10, oh0_11, oh0_12, oh0_13])), (h0_stay, .inr (6, [.int v_stay_count, oh0_stay_1]))] [(h0, .inr (8, [oh0_0, oh0_1, oh0_2, oh0_3, oh0_4, oh0_5, .ref h0_stay, oh0_7, oh0_8, oh0_9, oh0_10, oh0_11, oh0_12, oh0_13])), (h0_stay, .inr (6, [.int nv_stay_count, oh0_stay_1]))] r := by
  unfold f8_forget at hM
  refine ct_oi (cc := cX8_forget) (maxL := 2) (ty := .int) (by decide +kernel) rfl (Nat.le_of_ble_eq_true rfl) (lv0 := [(0, .ref h0)]) rfl ?_
  intro p e s m args below meth c A Q ls hx hb hts hown hml hK hP hD hS hA hret hl
  have hown : s.vm.findClass RX8 = some m.cls := hown
  have k40 := hts (.fieldLink RX8 40 "CaveYears" "stay" "LCaveYears$Stay;") (List.mem_of_getElem? (i := 1) (by decide +kernel))
  have iX8 := (fun w h => (List.mem_cons_of_mem _ (List.mem_append_left _ (List.mem_append_right _ h))) : ∀ w ∈ wsX80, w ∈ wsX8_forget)
  have k105 := hts (.fieldLink RX8 105 "CaveYears$Stay" "count" "I") (List.mem_of_getElem? (i := 2) (by decide +kernel))
  have iX6 := (fun w h => (List.mem_cons_of_mem _ (List.mem_append_right _ h)) : ∀ w ∈ wsX60, w ∈ wsX8_forget)
  refine lv_aload_n hx hb dX8_forget_0 rfl (lv_at hl 0 rfl) ?_
  refine va_get (D := D) (ci := 8) (v := .ref h0_stay) (C := RX8) (T := TX8) (N := 14) hx hb hts iX8 hown hK hP 0 rfl rfl 6 (by decide) k40 (fun _ h9 => h9) rfl dX8_forget_1 ?_
  refine va_get (D := D) (ci := 6) (v := .int v_stay_count) (C := RX6) (T := TX6) (N := 2) hx hb hts iX6 hown hK hP 1 rfl rfl 0 (by decide) k105 (fun _ h9 => h9) rfl dX8_forget_4 ?_
  refine lv_istore_n (lv' := [(1, .int v_stay_count), (0, .ref h0)]) hx hb dX8_forget_7 rfl hl (by decide) rfl (fun ls hl => ?_)
  refine lv_aload_n hx hb dX8_forget_8 rfl (lv_at hl 1 rfl) ?_
  refine va_get (D := D) (ci := 8) (v := .ref h0_stay) (C := RX8) (T := TX8) (N := 14) hx hb hts iX8 hown hK hP 0 rfl rfl 6 (by decide) k40 (fun _ h9 => h9) rfl dX8_forget_9 ?_
  refine lv_iconst (v := 0) hx hb dX8_forget_12 (by decide) ?_
  refine va_put (D := D) (ci := 6) (v := .int (0 : Int32)) (ty := .int) (C := RX6) (T := TX6) (N := 2) hx hb hts iX6 tyX6 tyX6_ok nmX6 hown hK hP hD hS 1 rfl rfl 0 (by decide) k105 (fun _ h9 => h9) rfl (by decide +kernel) rfl rfl (Nat.le_of_ble_eq_true rfl) dX8_forget_13 (fun H locs hP hD hS => ?_)
  have hP : va_P D vwCl [(h0, .inr (8, [oh0_0, oh0_1, oh0_2, oh0_3, oh0_4, oh0_5, .ref h0_stay, oh0_7, oh0_8, oh0_9, oh0_10, oh0_11, oh0_12, oh0_13])), (h0_stay, .inr (6, [.int (0 : Int32), oh0_stay_1]))] H := hP
  have hD : va_D A [(h0, .inr (8, [oh0_0, oh0_1, oh0_2, oh0_3, oh0_4, oh0_5, .ref h0_stay, oh0_7, oh0_8, oh0_9, oh0_10, oh0_11, oh0_12, oh0_13])), (h0_stay, .inr (6, [.int (0 : Int32), oh0_stay_1]))] := hD
  refine lv_iload_n hx hb dX8_forget_16 rfl (lv_at hl 0 rfl) ?_
  obtain ⟨rfl, rfl⟩ := si2 hM
  exact hret _ _ _ _ _ dX8_forget_17 rfl rfl hP hD hS

-- ===== X8_judge judge ()I =====
abbrev r8_judge : Room := { frames := 4, cells := 0, slots := 0, locals := 87 }
def f8_judge (N : Nat) (v_den_parts : Int32) (v_den_mouths : Int32) (v_den_near : Nat → Int32) (v_stay_count : Int32) (v_stay_partOf : Nat → Int32) : Option Int32 :=
  ob1 (f6_wrongDay N v_stay_count v_stay_partOf v_den_parts v_den_mouths v_den_near) fun r8 => some r8
set_option maxHeartbeats 4000000 in
set_option maxRecDepth 100000 in
theorem c8_judge (l : Launch) (D : va_G) (cy : Nat → ClassId) (N : Nat) (h0 h0_den h0_den_near h0_stay h0_stay_partOf : Nat) (oh0_0 oh0_1 oh0_2 oh0_4 oh0_5 oh0_7 oh0_8 oh0_9 oh0_10 oh0_11 oh0_12 oh0_13 oh0_den_2 oh0_den_3 oh0_den_4 oh0_den_5 oh0_den_6 oh0_den_7 oh0_den_9 oh0_den_10 oh0_den_11 oh0_den_12 : Value) (v_den_parts : Int32) (v_den_mouths : Int32) (v_den_near : Nat → Int32) (v_stay_count : Int32) (v_stay_partOf : Nat → Int32) (r : Int32) (hM : f8_judge N v_den_parts v_den_mouths v_den_near v_stay_count v_stay_partOf = some r) (sz : Nat) : CTi l yX8_judge wsX8_judge r8_judge [.ref h0] D cy sz [(h0, .inr (8, [oh0_0, oh0_1, oh0_2, .ref h0_den, oh0_4, oh0_5, .ref h0_stay, oh0_7, oh0_8, oh0_9, oh0_10, oh0_11, oh0_12, oh0_13])), (h0_den, .inr (0, [.int v_den_parts, .int v_den_mouths, oh0_den_2, oh0_den_3, oh0_den_4, oh0_den_5, oh0_den_6, oh0_den_7, .ref h0_den_near, oh0_den_9, oh0_den_10, oh0_den_11, oh0_den_12])), (h0_den_near, .inl (cy 2, 7, .inl v_den_near)), (h0_stay, .inr (6, [.int v_stay_count, .ref h0_stay_partOf])), (h0_stay_partOf, .inl (cy 2, 40, .inl v_stay_partOf))] [(h0, .inr (8, [oh0_0, oh0_1, oh0_2, .ref h0_den, oh0_4, oh0_5, .ref h0_stay, oh0_7, oh0_8, oh0_9, oh0_10, oh0_11, oh0_12, oh0_13])), (h0_den, .inr (0, [.int v_den_parts, .int v_den_mouths, oh0_den_2, oh0_den_3, oh0_den_4, oh0_den_5, oh0_den_6, oh0_den_7, .ref h0_den_near, oh0_den_9, oh0_den_10, oh0_den_11, oh0_den_12])), (h0_den_near, .inl (cy 2, 7, .inl v_den_near)), (h0_stay, .inr (6, [.int v_stay_count, .ref h0_stay_partOf])), (h0_stay_partOf, .inl (cy 2, 40, .inl v_stay_partOf))] r := by
  unfold f8_judge at hM
  refine ct_oi (cc := cX8_judge) (maxL := 1) (ty := .int) (by decide +kernel) rfl (Nat.le_of_ble_eq_true rfl) (lv0 := [(0, .ref h0)]) rfl ?_
  intro p e s m args below meth c A Q ls hx hb hts hown hml hK hP hD hS hA hret hl
  have hown : s.vm.findClass RX8 = some m.cls := hown
  have k40 := hts (.fieldLink RX8 40 "CaveYears" "stay" "LCaveYears$Stay;") (List.mem_of_getElem? (i := 1) (by decide +kernel))
  have iX8 := (fun w h => (List.mem_cons_of_mem _ (List.mem_append_left _ (List.mem_append_left _ (List.mem_append_right _ h)))) : ∀ w ∈ wsX80, w ∈ wsX8_judge)
  have k23 := hts (.fieldLink RX8 23 "CaveYears" "den" "LCaveYears$Cave;") (List.mem_of_getElem? (i := 2) (by decide +kernel))
  refine lv_aload_n hx hb dX8_judge_0 rfl (lv_at hl 0 rfl) ?_
  refine va_get (D := D) (ci := 8) (v := .ref h0_stay) (C := RX8) (T := TX8) (N := 14) hx hb hts iX8 hown hK hP 0 rfl rfl 6 (by decide) k40 (fun _ h9 => h9) rfl dX8_judge_1 ?_
  refine lv_aload_n hx hb dX8_judge_4 rfl (lv_at hl 0 rfl) ?_
  refine va_get (D := D) (ci := 8) (v := .ref h0_den) (C := RX8) (T := TX8) (N := 14) hx hb hts iX8 hown hK hP 0 rfl rfl 3 (by decide) k23 (fun _ h9 => h9) rfl dX8_judge_5 ?_
  obtain ⟨r8, hc8, hM⟩ := ob1_some hM
  refine cl_vi (As := [.ref h0_den]) (rest := []) (ci := 6) (q0 := 3) (wr := [(h0, .inr (8, [oh0_0, oh0_1, oh0_2, .ref h0_den, oh0_4, oh0_5, .ref h0_stay, oh0_7, oh0_8, oh0_9, oh0_10, oh0_11, oh0_12, oh0_13]))]) (ws2 := [(h0, .inr (8, [oh0_0, oh0_1, oh0_2, .ref h0_den, oh0_4, oh0_5, .ref h0_stay, oh0_7, oh0_8, oh0_9, oh0_10, oh0_11, oh0_12, oh0_13])), (h0_den, .inr (0, [.int v_den_parts, .int v_den_mouths, oh0_den_2, oh0_den_3, oh0_den_4, oh0_den_5, oh0_den_6, oh0_den_7, .ref h0_den_near, oh0_den_9, oh0_den_10, oh0_den_11, oh0_den_12])), (h0_den_near, .inl (cy 2, 7, .inl v_den_near)), (h0_stay, .inr (6, [.int v_stay_count, .ref h0_stay_partOf])), (h0_stay_partOf, .inl (cy 2, 40, .inl v_stay_partOf))]) (isC := [3, 4, 1, 2]) (isR := [0]) (pm := [0, 3, 4, 1, 2]) hx hb hml hown hts (c6_wrongDay l D cy N h0_stay h0_stay_partOf h0_den h0_den_near oh0_den_2 oh0_den_3 oh0_den_4 oh0_den_5 oh0_den_6 oh0_den_7 oh0_den_9 oh0_den_10 oh0_den_11 oh0_den_12 v_stay_count v_stay_partOf v_den_parts v_den_mouths v_den_near r8 hc8) (cwV 1 hts gX8_judge_X6_wrongDay rfl rfl rfl (by decide +kernel) ⟨Nat.le_of_ble_eq_true rfl, Nat.le_of_ble_eq_true rfl⟩) hK hP hD hS hA rfl rfl rfl rfl rfl (by decide) rfl rfl rfl hl.1 (Nat.le_of_ble_eq_true rfl) dX8_judge_8 ⟨Nat.zero_le _, Nat.zero_le _⟩ rfl rfl (fun H locs hP hD hS => ?_)
  obtain rfl := si1 hM
  exact hret _ _ _ _ _ dX8_judge_11 rfl rfl hP hD hS

-- ===== X8_enter enter (I)I =====
abbrev r8_enter : Room := { frames := 4, cells := 0, slots := 0, locals := 87 }
def f8_enter (N : Nat) (p1 : Int32) (v_den_parts : Int32) (v_den_mouths : Int32) (v_den_persons : Int32) (v_den_rate : Nat → Int32) (v_den_near : Nat → Int32) (v_stay_count : Int32) (v_stay_partOf : Nat → Int32) (v_folk_date : Int32) (v_folk_age : Nat → Int32) (v_folk_out : Nat → Int32) : Option (Int32 × (Nat → Int32) × (Nat → Int32)) :=
  ob1 (f0_hasPerson N p1 v_den_persons) fun r5 => if r5 = (0 : Int32) then (some ((-1000000001 : Int32), v_folk_age, v_folk_out)) else (ob1 (f2_isUp N p1 v_folk_out) fun r19 => if r19 = (0 : Int32) then (some ((-1000000003 : Int32), v_folk_age, v_folk_out)) else (if v_stay_count = (0 : Int32) then (some ((-1000000003 : Int32), v_folk_age, v_folk_out)) else (ob1 (f6_wrongDay N v_stay_count v_stay_partOf v_den_parts v_den_mouths v_den_near) fun r43 => if r43 = (-1 : Int32) then (ob1 (f6_time N v_stay_count v_stay_partOf v_den_parts v_den_rate) fun r73 => ob2 (f2_goIn N p1 v_stay_count r73 v_folk_date v_folk_age v_folk_out) fun v_folk_age_76 v_folk_out_76 => gi p1 6 (some ((v_folk_out_76 p1.toNatClampNeg), v_folk_age_76, v_folk_out_76))) else (some ((-1000000003 : Int32), v_folk_age, v_folk_out)))))
set_option maxHeartbeats 4000000 in
set_option maxRecDepth 100000 in
theorem c8_enter (l : Launch) (D : va_G) (cy : Nat → ClassId) (N : Nat) (h0 h0_den h0_den_rate h0_den_near h0_stay h0_stay_partOf h0_folk h0_folk_age h0_folk_out : Nat) (oh0_0 oh0_1 oh0_2 oh0_4 oh0_5 oh0_8 oh0_9 oh0_10 oh0_11 oh0_12 oh0_13 oh0_den_2 oh0_den_4 oh0_den_5 oh0_den_6 oh0_den_9 oh0_den_10 oh0_den_11 oh0_den_12 oh0_folk_0 oh0_folk_2 oh0_folk_4 : Value) (p1 : Int32) (v_den_parts : Int32) (v_den_mouths : Int32) (v_den_persons : Int32) (v_den_rate : Nat → Int32) (v_den_near : Nat → Int32) (v_stay_count : Int32) (v_stay_partOf : Nat → Int32) (v_folk_date : Int32) (v_folk_age : Nat → Int32) (v_folk_out : Nat → Int32) (r : Int32) (nv_folk_age : Nat → Int32) (nv_folk_out : Nat → Int32) (hM : f8_enter N p1 v_den_parts v_den_mouths v_den_persons v_den_rate v_den_near v_stay_count v_stay_partOf v_folk_date v_folk_age v_folk_out = some (r, nv_folk_age, nv_folk_out)) (sz : Nat) : CTi l yX8_enter wsX8_enter r8_enter [.ref h0, .int p1] D cy sz [(h0, .inr (8, [oh0_0, oh0_1, oh0_2, .ref h0_den, oh0_4, oh0_5, .ref h0_stay, .ref h0_folk, oh0_8, oh0_9, oh0_10, oh0_11, oh0_12, oh0_13])), (h0_den, .inr (0, [.int v_den_parts, .int v_den_mouths, oh0_den_2, .int v_den_persons, oh0_den_4, oh0_den_5, oh0_den_6, .ref h0_den_rate, .ref h0_den_near, oh0_den_9, oh0_den_10, oh0_den_11, oh0_den_12])), (h0_den_rate, .inl (cy 2, 7, .inl v_den_rate)), (h0_den_near, .inl (cy 2, 7, .inl v_den_near)), (h0_stay, .inr (6, [.int v_stay_count, .ref h0_stay_partOf])), (h0_stay_partOf, .inl (cy 2, 40, .inl v_stay_partOf)), (h0_folk, .inr (2, [oh0_folk_0, .int v_folk_date, oh0_folk_2, .ref h0_folk_age, oh0_folk_4, .ref h0_folk_out])), (h0_folk_age, .inl (cy 2, 6, .inl v_folk_age)), (h0_folk_out, .inl (cy 2, 6, .inl v_folk_out))] [(h0, .inr (8, [oh0_0, oh0_1, oh0_2, .ref h0_den, oh0_4, oh0_5, .ref h0_stay, .ref h0_folk, oh0_8, oh0_9, oh0_10, oh0_11, oh0_12, oh0_13])), (h0_den, .inr (0, [.int v_den_parts, .int v_den_mouths, oh0_den_2, .int v_den_persons, oh0_den_4, oh0_den_5, oh0_den_6, .ref h0_den_rate, .ref h0_den_near, oh0_den_9, oh0_den_10, oh0_den_11, oh0_den_12])), (h0_den_rate, .inl (cy 2, 7, .inl v_den_rate)), (h0_den_near, .inl (cy 2, 7, .inl v_den_near)), (h0_stay, .inr (6, [.int v_stay_count, .ref h0_stay_partOf])), (h0_stay_partOf, .inl (cy 2, 40, .inl v_stay_partOf)), (h0_folk, .inr (2, [oh0_folk_0, .int v_folk_date, oh0_folk_2, .ref h0_folk_age, oh0_folk_4, .ref h0_folk_out])), (h0_folk_age, .inl (cy 2, 6, .inl nv_folk_age)), (h0_folk_out, .inl (cy 2, 6, .inl nv_folk_out))] r := by
  unfold f8_enter at hM
  refine ct_oi (cc := cX8_enter) (maxL := 2) (ty := .int) (by decide +kernel) rfl (Nat.le_of_ble_eq_true rfl) (lv0 := [(0, .ref h0), (1, .int p1)]) rfl ?_
  intro p e s m args below meth c A Q ls hx hb hts hown hml hK hP hD hS hA hret hl
  have hown : s.vm.findClass RX8 = some m.cls := hown
  have k23 := hts (.fieldLink RX8 23 "CaveYears" "den" "LCaveYears$Cave;") (List.mem_of_getElem? (i := 1) (by decide +kernel))
  have iX8 := (fun w h => (List.mem_cons_of_mem _ (List.mem_append_left _ (List.mem_append_left _ (List.mem_append_left _ (List.mem_append_right _ h))))) : ∀ w ∈ wsX80, w ∈ wsX8_enter)
  have k47 := hts (.fieldLink RX8 47 "CaveYears" "folk" "LCaveYears$Folk;") (List.mem_of_getElem? (i := 3) (by decide +kernel))
  have k172 := hts (.constant RX8 172 (-1000000003)) (List.mem_of_getElem? (i := 6) (by decide +kernel))
  have k40 := hts (.fieldLink RX8 40 "CaveYears" "stay" "LCaveYears$Stay;") (List.mem_of_getElem? (i := 4) (by decide +kernel))
  have k105 := hts (.fieldLink RX8 105 "CaveYears$Stay" "count" "I") (List.mem_of_getElem? (i := 5) (by decide +kernel))
  have iX6 := (fun w h => (List.mem_cons_of_mem _ (List.mem_append_left _ (List.mem_append_left _ (List.mem_append_right _ h)))) : ∀ w ∈ wsX60, w ∈ wsX8_enter)
  have k160 := hts (.fieldLink RX8 160 "CaveYears$Folk" "out" "[I") (List.mem_of_getElem? (i := 7) (by decide +kernel))
  have iX2 := (fun w h => (List.mem_cons_of_mem _ (List.mem_append_left _ (List.mem_append_right _ h))) : ∀ w ∈ wsX20, w ∈ wsX8_enter)
  have k140 := hts (.constant RX8 140 (-1000000001)) (List.mem_of_getElem? (i := 2) (by decide +kernel))
  refine lv_aload_n hx hb dX8_enter_0 rfl (lv_at hl 0 rfl) ?_
  refine va_get (D := D) (ci := 8) (v := .ref h0_den) (C := RX8) (T := TX8) (N := 14) hx hb hts iX8 hown hK hP 0 rfl rfl 3 (by decide) k23 (fun _ h9 => h9) rfl dX8_enter_1 ?_
  refine lv_iload_n hx hb dX8_enter_4 rfl (lv_at hl 1 rfl) ?_
  obtain ⟨r5, hc5, hM⟩ := ob1_some hM
  refine cl_vi (As := [.int p1]) (rest := []) (ci := 0) (q0 := 1) (wr := [(h0, .inr (8, [oh0_0, oh0_1, oh0_2, .ref h0_den, oh0_4, oh0_5, .ref h0_stay, .ref h0_folk, oh0_8, oh0_9, oh0_10, oh0_11, oh0_12, oh0_13])), (h0_den_rate, .inl (cy 2, 7, .inl v_den_rate)), (h0_den_near, .inl (cy 2, 7, .inl v_den_near)), (h0_stay, .inr (6, [.int v_stay_count, .ref h0_stay_partOf])), (h0_stay_partOf, .inl (cy 2, 40, .inl v_stay_partOf)), (h0_folk, .inr (2, [oh0_folk_0, .int v_folk_date, oh0_folk_2, .ref h0_folk_age, oh0_folk_4, .ref h0_folk_out])), (h0_folk_age, .inl (cy 2, 6, .inl v_folk_age)), (h0_folk_out, .inl (cy 2, 6, .inl v_folk_out))]) (ws2 := [(h0, .inr (8, [oh0_0, oh0_1, oh0_2, .ref h0_den, oh0_4, oh0_5, .ref h0_stay, .ref h0_folk, oh0_8, oh0_9, oh0_10, oh0_11, oh0_12, oh0_13])), (h0_den, .inr (0, [.int v_den_parts, .int v_den_mouths, oh0_den_2, .int v_den_persons, oh0_den_4, oh0_den_5, oh0_den_6, .ref h0_den_rate, .ref h0_den_near, oh0_den_9, oh0_den_10, oh0_den_11, oh0_den_12])), (h0_den_rate, .inl (cy 2, 7, .inl v_den_rate)), (h0_den_near, .inl (cy 2, 7, .inl v_den_near)), (h0_stay, .inr (6, [.int v_stay_count, .ref h0_stay_partOf])), (h0_stay_partOf, .inl (cy 2, 40, .inl v_stay_partOf)), (h0_folk, .inr (2, [oh0_folk_0, .int v_folk_date, oh0_folk_2, .ref h0_folk_age, oh0_folk_4, .ref h0_folk_out])), (h0_folk_age, .inl (cy 2, 6, .inl v_folk_age)), (h0_folk_out, .inl (cy 2, 6, .inl v_folk_out))]) (isC := [1]) (isR := [0, 2, 3, 4, 5, 6, 7, 8]) (pm := [0, 8, 1, 2, 3, 4, 5, 6, 7]) hx hb hml hown hts (c0_hasPerson l D cy N h0_den (.int v_den_parts) (.int v_den_mouths) oh0_den_2 oh0_den_4 oh0_den_5 oh0_den_6 (.ref h0_den_rate) (.ref h0_den_near) oh0_den_9 oh0_den_10 oh0_den_11 oh0_den_12 p1 v_den_persons r5 hc5) (cwV 1 hts gX8_enter_X0_hasPerson rfl rfl rfl (by decide +kernel) ⟨Nat.le_of_ble_eq_true rfl, Nat.le_of_ble_eq_true rfl⟩) hK hP hD hS hA rfl rfl rfl rfl rfl (by decide) rfl rfl rfl hl.1 (Nat.le_of_ble_eq_true rfl) dX8_enter_5 ⟨Nat.zero_le _, Nat.zero_le _⟩ rfl rfl (fun H locs hP hD hS => ?_)
  refine lv_if_ne (tgt := 14) hx hb dX8_enter_8 (by decide) (fun c8 => ?_) (fun c8 => ?_)
  · have hM := g_neg c8 hM
    refine lv_aload_n hx hb dX8_enter_14 rfl (lv_at hl 0 rfl) ?_
    refine va_get (D := D) (ci := 8) (v := .ref h0_folk) (C := RX8) (T := TX8) (N := 14) hx hb hts iX8 hown hK hP 0 rfl rfl 7 (by decide) k47 (fun _ h9 => h9) rfl dX8_enter_15 ?_
    refine lv_iload_n hx hb dX8_enter_18 rfl (lv_at hl 1 rfl) ?_
    obtain ⟨r19, hc19, hM⟩ := ob1_some hM
    refine cl_vi (As := [.int p1]) (rest := []) (ci := 2) (q0 := 6) (wr := [(h0, .inr (8, [oh0_0, oh0_1, oh0_2, .ref h0_den, oh0_4, oh0_5, .ref h0_stay, .ref h0_folk, oh0_8, oh0_9, oh0_10, oh0_11, oh0_12, oh0_13])), (h0_den, .inr (0, [.int v_den_parts, .int v_den_mouths, oh0_den_2, .int v_den_persons, oh0_den_4, oh0_den_5, oh0_den_6, .ref h0_den_rate, .ref h0_den_near, oh0_den_9, oh0_den_10, oh0_den_11, oh0_den_12])), (h0_den_rate, .inl (cy 2, 7, .inl v_den_rate)), (h0_den_near, .inl (cy 2, 7, .inl v_den_near)), (h0_stay, .inr (6, [.int v_stay_count, .ref h0_stay_partOf])), (h0_stay_partOf, .inl (cy 2, 40, .inl v_stay_partOf)), (h0_folk_age, .inl (cy 2, 6, .inl v_folk_age))]) (ws2 := [(h0, .inr (8, [oh0_0, oh0_1, oh0_2, .ref h0_den, oh0_4, oh0_5, .ref h0_stay, .ref h0_folk, oh0_8, oh0_9, oh0_10, oh0_11, oh0_12, oh0_13])), (h0_den, .inr (0, [.int v_den_parts, .int v_den_mouths, oh0_den_2, .int v_den_persons, oh0_den_4, oh0_den_5, oh0_den_6, .ref h0_den_rate, .ref h0_den_near, oh0_den_9, oh0_den_10, oh0_den_11, oh0_den_12])), (h0_den_rate, .inl (cy 2, 7, .inl v_den_rate)), (h0_den_near, .inl (cy 2, 7, .inl v_den_near)), (h0_stay, .inr (6, [.int v_stay_count, .ref h0_stay_partOf])), (h0_stay_partOf, .inl (cy 2, 40, .inl v_stay_partOf)), (h0_folk, .inr (2, [oh0_folk_0, .int v_folk_date, oh0_folk_2, .ref h0_folk_age, oh0_folk_4, .ref h0_folk_out])), (h0_folk_age, .inl (cy 2, 6, .inl v_folk_age)), (h0_folk_out, .inl (cy 2, 6, .inl v_folk_out))]) (isC := [6, 8]) (isR := [0, 1, 2, 3, 4, 5, 7]) (pm := [0, 1, 2, 3, 4, 5, 7, 6, 8]) hx hb hml hown hts (c2_isUp l D cy N h0_folk h0_folk_out oh0_folk_0 (.int v_folk_date) oh0_folk_2 (.ref h0_folk_age) oh0_folk_4 p1 v_folk_out r19 hc19) (cwV 1 hts gX8_enter_X2_isUp rfl rfl rfl (by decide +kernel) ⟨Nat.le_of_ble_eq_true rfl, Nat.le_of_ble_eq_true rfl⟩) hK hP hD hS hA rfl rfl rfl rfl rfl (by decide) rfl rfl rfl hl.1 (Nat.le_of_ble_eq_true rfl) dX8_enter_19 ⟨Nat.zero_le _, Nat.zero_le _⟩ rfl rfl (fun H locs hP hD hS => ?_)
    refine lv_if_eq (tgt := 50) hx hb dX8_enter_22 (by decide) (fun c22 => ?_) (fun c22 => ?_)
    · have hM := g_pos c22 hM
      refine lv_ldc (v := -1000000003) hx hb hown k172 dX8_enter_50 ?_
      obtain ⟨rfl, rfl, rfl⟩ := si3 hM
      exact hret _ _ _ _ _ dX8_enter_52 rfl rfl hP hD hS
    · have hM := g_neg c22 hM
      refine lv_aload_n hx hb dX8_enter_25 rfl (lv_at hl 0 rfl) ?_
      refine va_get (D := D) (ci := 8) (v := .ref h0_stay) (C := RX8) (T := TX8) (N := 14) hx hb hts iX8 hown hK hP 0 rfl rfl 6 (by decide) k40 (fun _ h9 => h9) rfl dX8_enter_26 ?_
      refine va_get (D := D) (ci := 6) (v := .int v_stay_count) (C := RX6) (T := TX6) (N := 2) hx hb hts iX6 hown hK hP 4 rfl rfl 0 (by decide) k105 (fun _ h9 => h9) rfl dX8_enter_29 ?_
      refine lv_if_eq (tgt := 50) hx hb dX8_enter_32 (by decide) (fun c32 => ?_) (fun c32 => ?_)
      · have hM := g_pos c32 hM
        refine lv_ldc (v := -1000000003) hx hb hown k172 dX8_enter_50 ?_
        obtain ⟨rfl, rfl, rfl⟩ := si3 hM
        exact hret _ _ _ _ _ dX8_enter_52 rfl rfl hP hD hS
      · have hM := g_neg c32 hM
        refine lv_aload_n hx hb dX8_enter_35 rfl (lv_at hl 0 rfl) ?_
        refine va_get (D := D) (ci := 8) (v := .ref h0_stay) (C := RX8) (T := TX8) (N := 14) hx hb hts iX8 hown hK hP 0 rfl rfl 6 (by decide) k40 (fun _ h9 => h9) rfl dX8_enter_36 ?_
        refine lv_aload_n hx hb dX8_enter_39 rfl (lv_at hl 0 rfl) ?_
        refine va_get (D := D) (ci := 8) (v := .ref h0_den) (C := RX8) (T := TX8) (N := 14) hx hb hts iX8 hown hK hP 0 rfl rfl 3 (by decide) k23 (fun _ h9 => h9) rfl dX8_enter_40 ?_
        obtain ⟨r43, hc43, hM⟩ := ob1_some hM
        refine cl_vi (As := [.ref h0_den]) (rest := []) (ci := 6) (q0 := 4) (wr := [(h0, .inr (8, [oh0_0, oh0_1, oh0_2, .ref h0_den, oh0_4, oh0_5, .ref h0_stay, .ref h0_folk, oh0_8, oh0_9, oh0_10, oh0_11, oh0_12, oh0_13])), (h0_den_rate, .inl (cy 2, 7, .inl v_den_rate)), (h0_folk, .inr (2, [oh0_folk_0, .int v_folk_date, oh0_folk_2, .ref h0_folk_age, oh0_folk_4, .ref h0_folk_out])), (h0_folk_age, .inl (cy 2, 6, .inl v_folk_age)), (h0_folk_out, .inl (cy 2, 6, .inl v_folk_out))]) (ws2 := [(h0, .inr (8, [oh0_0, oh0_1, oh0_2, .ref h0_den, oh0_4, oh0_5, .ref h0_stay, .ref h0_folk, oh0_8, oh0_9, oh0_10, oh0_11, oh0_12, oh0_13])), (h0_den, .inr (0, [.int v_den_parts, .int v_den_mouths, oh0_den_2, .int v_den_persons, oh0_den_4, oh0_den_5, oh0_den_6, .ref h0_den_rate, .ref h0_den_near, oh0_den_9, oh0_den_10, oh0_den_11, oh0_den_12])), (h0_den_rate, .inl (cy 2, 7, .inl v_den_rate)), (h0_den_near, .inl (cy 2, 7, .inl v_den_near)), (h0_stay, .inr (6, [.int v_stay_count, .ref h0_stay_partOf])), (h0_stay_partOf, .inl (cy 2, 40, .inl v_stay_partOf)), (h0_folk, .inr (2, [oh0_folk_0, .int v_folk_date, oh0_folk_2, .ref h0_folk_age, oh0_folk_4, .ref h0_folk_out])), (h0_folk_age, .inl (cy 2, 6, .inl v_folk_age)), (h0_folk_out, .inl (cy 2, 6, .inl v_folk_out))]) (isC := [4, 5, 1, 3]) (isR := [0, 2, 6, 7, 8]) (pm := [0, 7, 1, 8, 5, 6, 2, 3, 4]) hx hb hml hown hts (c6_wrongDay l D cy N h0_stay h0_stay_partOf h0_den h0_den_near oh0_den_2 (.int v_den_persons) oh0_den_4 oh0_den_5 oh0_den_6 (.ref h0_den_rate) oh0_den_9 oh0_den_10 oh0_den_11 oh0_den_12 v_stay_count v_stay_partOf v_den_parts v_den_mouths v_den_near r43 hc43) (cwV 1 hts gX8_enter_X6_wrongDay rfl rfl rfl (by decide +kernel) ⟨Nat.le_of_ble_eq_true rfl, Nat.le_of_ble_eq_true rfl⟩) hK hP hD hS hA rfl rfl rfl rfl rfl (by decide) rfl rfl rfl hl.1 (Nat.le_of_ble_eq_true rfl) dX8_enter_43 ⟨Nat.zero_le _, Nat.zero_le _⟩ rfl rfl (fun H locs hP hD hS => ?_)
        refine lv_iconst (v := -1) hx hb dX8_enter_46 (by decide) ?_
        refine lv_icmp_eq (tgt := 53) hx hb dX8_enter_47 (by decide) (fun c47 => ?_) (fun c47 => ?_)
        · have hM := g_pos c47 hM
          refine lv_aload_n hx hb dX8_enter_53 rfl (lv_at hl 0 rfl) ?_
          refine va_get (D := D) (ci := 8) (v := .ref h0_folk) (C := RX8) (T := TX8) (N := 14) hx hb hts iX8 hown hK hP 0 rfl rfl 7 (by decide) k47 (fun _ h9 => h9) rfl dX8_enter_54 ?_
          refine lv_iload_n hx hb dX8_enter_57 rfl (lv_at hl 1 rfl) ?_
          refine lv_aload_n hx hb dX8_enter_58 rfl (lv_at hl 0 rfl) ?_
          refine va_get (D := D) (ci := 8) (v := .ref h0_stay) (C := RX8) (T := TX8) (N := 14) hx hb hts iX8 hown hK hP 0 rfl rfl 6 (by decide) k40 (fun _ h9 => h9) rfl dX8_enter_59 ?_
          refine va_get (D := D) (ci := 6) (v := .int v_stay_count) (C := RX6) (T := TX6) (N := 2) hx hb hts iX6 hown hK hP 4 rfl rfl 0 (by decide) k105 (fun _ h9 => h9) rfl dX8_enter_62 ?_
          refine lv_aload_n hx hb dX8_enter_65 rfl (lv_at hl 0 rfl) ?_
          refine va_get (D := D) (ci := 8) (v := .ref h0_stay) (C := RX8) (T := TX8) (N := 14) hx hb hts iX8 hown hK hP 0 rfl rfl 6 (by decide) k40 (fun _ h9 => h9) rfl dX8_enter_66 ?_
          refine lv_aload_n hx hb dX8_enter_69 rfl (lv_at hl 0 rfl) ?_
          refine va_get (D := D) (ci := 8) (v := .ref h0_den) (C := RX8) (T := TX8) (N := 14) hx hb hts iX8 hown hK hP 0 rfl rfl 3 (by decide) k23 (fun _ h9 => h9) rfl dX8_enter_70 ?_
          obtain ⟨r73, hc73, hM⟩ := ob1_some hM
          refine cl_vi (As := [.ref h0_den]) (rest := [.int v_stay_count, .int p1, .ref h0_folk]) (ci := 6) (q0 := 4) (wr := [(h0, .inr (8, [oh0_0, oh0_1, oh0_2, .ref h0_den, oh0_4, oh0_5, .ref h0_stay, .ref h0_folk, oh0_8, oh0_9, oh0_10, oh0_11, oh0_12, oh0_13])), (h0_den_near, .inl (cy 2, 7, .inl v_den_near)), (h0_folk, .inr (2, [oh0_folk_0, .int v_folk_date, oh0_folk_2, .ref h0_folk_age, oh0_folk_4, .ref h0_folk_out])), (h0_folk_age, .inl (cy 2, 6, .inl v_folk_age)), (h0_folk_out, .inl (cy 2, 6, .inl v_folk_out))]) (ws2 := [(h0, .inr (8, [oh0_0, oh0_1, oh0_2, .ref h0_den, oh0_4, oh0_5, .ref h0_stay, .ref h0_folk, oh0_8, oh0_9, oh0_10, oh0_11, oh0_12, oh0_13])), (h0_den, .inr (0, [.int v_den_parts, .int v_den_mouths, oh0_den_2, .int v_den_persons, oh0_den_4, oh0_den_5, oh0_den_6, .ref h0_den_rate, .ref h0_den_near, oh0_den_9, oh0_den_10, oh0_den_11, oh0_den_12])), (h0_den_rate, .inl (cy 2, 7, .inl v_den_rate)), (h0_den_near, .inl (cy 2, 7, .inl v_den_near)), (h0_stay, .inr (6, [.int v_stay_count, .ref h0_stay_partOf])), (h0_stay_partOf, .inl (cy 2, 40, .inl v_stay_partOf)), (h0_folk, .inr (2, [oh0_folk_0, .int v_folk_date, oh0_folk_2, .ref h0_folk_age, oh0_folk_4, .ref h0_folk_out])), (h0_folk_age, .inl (cy 2, 6, .inl v_folk_age)), (h0_folk_out, .inl (cy 2, 6, .inl v_folk_out))]) (isC := [4, 5, 1, 2]) (isR := [0, 3, 6, 7, 8]) (pm := [0, 7, 8, 1, 5, 6, 2, 3, 4]) hx hb hml hown hts (c6_time l D cy N h0_stay h0_stay_partOf h0_den h0_den_rate (.int v_den_mouths) oh0_den_2 (.int v_den_persons) oh0_den_4 oh0_den_5 oh0_den_6 (.ref h0_den_near) oh0_den_9 oh0_den_10 oh0_den_11 oh0_den_12 v_stay_count v_stay_partOf v_den_parts v_den_rate r73 hc73) (cwV 1 hts gX8_enter_X6_time rfl rfl rfl (by decide +kernel) ⟨Nat.le_of_ble_eq_true rfl, Nat.le_of_ble_eq_true rfl⟩) hK hP hD hS hA rfl rfl rfl rfl rfl (by decide) rfl rfl rfl hl.1 (Nat.le_of_ble_eq_true rfl) dX8_enter_73 ⟨Nat.zero_le _, Nat.zero_le _⟩ rfl rfl (fun H locs hP hD hS => ?_)
          obtain ⟨v_folk_age_76, v_folk_out_76, hc76, hM⟩ := ob2_some hM
          refine cl_vv (As := [.int p1, .int v_stay_count, .int r73]) (rest := []) (ci := 2) (q0 := 6) (wr := [(h0, .inr (8, [oh0_0, oh0_1, oh0_2, .ref h0_den, oh0_4, oh0_5, .ref h0_stay, .ref h0_folk, oh0_8, oh0_9, oh0_10, oh0_11, oh0_12, oh0_13])), (h0_den, .inr (0, [.int v_den_parts, .int v_den_mouths, oh0_den_2, .int v_den_persons, oh0_den_4, oh0_den_5, oh0_den_6, .ref h0_den_rate, .ref h0_den_near, oh0_den_9, oh0_den_10, oh0_den_11, oh0_den_12])), (h0_den_rate, .inl (cy 2, 7, .inl v_den_rate)), (h0_den_near, .inl (cy 2, 7, .inl v_den_near)), (h0_stay, .inr (6, [.int v_stay_count, .ref h0_stay_partOf])), (h0_stay_partOf, .inl (cy 2, 40, .inl v_stay_partOf))]) (ws2 := [(h0, .inr (8, [oh0_0, oh0_1, oh0_2, .ref h0_den, oh0_4, oh0_5, .ref h0_stay, .ref h0_folk, oh0_8, oh0_9, oh0_10, oh0_11, oh0_12, oh0_13])), (h0_den, .inr (0, [.int v_den_parts, .int v_den_mouths, oh0_den_2, .int v_den_persons, oh0_den_4, oh0_den_5, oh0_den_6, .ref h0_den_rate, .ref h0_den_near, oh0_den_9, oh0_den_10, oh0_den_11, oh0_den_12])), (h0_den_rate, .inl (cy 2, 7, .inl v_den_rate)), (h0_den_near, .inl (cy 2, 7, .inl v_den_near)), (h0_stay, .inr (6, [.int v_stay_count, .ref h0_stay_partOf])), (h0_stay_partOf, .inl (cy 2, 40, .inl v_stay_partOf)), (h0_folk, .inr (2, [oh0_folk_0, .int v_folk_date, oh0_folk_2, .ref h0_folk_age, oh0_folk_4, .ref h0_folk_out])), (h0_folk_age, .inl (cy 2, 6, .inl v_folk_age_76)), (h0_folk_out, .inl (cy 2, 6, .inl v_folk_out_76))]) (isC := [6, 7, 8]) (isR := [0, 1, 2, 3, 4, 5]) (pm := [0, 1, 2, 3, 4, 5, 6, 7, 8]) hx hb hml hown hts (c2_goIn l D cy N h0_folk h0_folk_age h0_folk_out oh0_folk_0 oh0_folk_2 oh0_folk_4 p1 v_stay_count r73 v_folk_date v_folk_age v_folk_out v_folk_age_76 v_folk_out_76 hc76) (cwV 3 hts gX8_enter_X2_goIn rfl rfl rfl (by decide +kernel) ⟨Nat.le_of_ble_eq_true rfl, Nat.le_of_ble_eq_true rfl⟩) hK hP hD hS hA rfl rfl rfl rfl rfl (by decide) rfl rfl rfl hl.1 (Nat.le_of_ble_eq_true rfl) dX8_enter_76 ⟨Nat.zero_le _, Nat.zero_le _⟩ rfl rfl (fun H locs hP hD hS => ?_)
          refine lv_aload_n hx hb dX8_enter_79 rfl (lv_at hl 0 rfl) ?_
          refine va_get (D := D) (ci := 8) (v := .ref h0_folk) (C := RX8) (T := TX8) (N := 14) hx hb hts iX8 hown hK hP 0 rfl rfl 7 (by decide) k47 (fun _ h9 => h9) rfl dX8_enter_80 ?_
          refine va_get (D := D) (ci := 2) (v := .ref h0_folk_out) (C := RX2) (T := TX2) (N := 6) hx hb hts iX2 hown hK hP 6 rfl rfl 5 (by decide) k160 (fun _ h9 => h9) rfl dX8_enter_83 ?_
          refine lv_iload_n hx hb dX8_enter_86 rfl (lv_at hl 1 rfl) ?_
          obtain ⟨h87, hM⟩ := gi_some hM
          refine va_iald hx hb hK hP 8 2 rfl rfl h87 dX8_enter_87 ?_
          obtain ⟨rfl, rfl, rfl⟩ := si3 hM
          exact hret _ _ _ _ _ dX8_enter_88 rfl rfl hP hD hS
        · have hM := g_neg c47 hM
          refine lv_ldc (v := -1000000003) hx hb hown k172 dX8_enter_50 ?_
          obtain ⟨rfl, rfl, rfl⟩ := si3 hM
          exact hret _ _ _ _ _ dX8_enter_52 rfl rfl hP hD hS
  · have hM := g_pos c8 hM
    refine lv_ldc (v := -1000000001) hx hb hown k140 dX8_enter_11 ?_
    obtain ⟨rfl, rfl, rfl⟩ := si3 hM
    exact hret _ _ _ _ _ dX8_enter_13 rfl rfl hP hD hS

-- ===== X8_pass pass (I)I =====
abbrev r8_pass : Room := { frames := 4, cells := 0, slots := 0, locals := 98 }
def f8_pass (N : Nat) (p1 : Int32) (v_den_persons : Int32) (v_den_interest : Int32) (v_folk_date : Int32) (v_folk_age : Nat → Int32) (v_folk_riches : Nat → Int32) (v_folk_out : Nat → Int32) : Option (Int32 × Int32 × (Nat → Int32) × (Nat → Int32) × (Nat → Int32)) :=
  if p1 < (1 : Int32) then (some ((-1000000002 : Int32), v_folk_date, v_folk_age, v_folk_riches, v_folk_out)) else (if p1 ≤ (9999 : Int32) then (if (v_folk_date + p1) ≤ (9999999 : Int32) then (ob4 (f2_letPass N p1 v_folk_date v_folk_age v_folk_riches v_folk_out v_den_persons v_den_interest) fun v_folk_date_41 v_folk_age_41 v_folk_riches_41 v_folk_out_41 => some (v_folk_date_41, v_folk_date_41, v_folk_age_41, v_folk_riches_41, v_folk_out_41)) else (some ((-1000000004 : Int32), v_folk_date, v_folk_age, v_folk_riches, v_folk_out))) else (some ((-1000000002 : Int32), v_folk_date, v_folk_age, v_folk_riches, v_folk_out)))
set_option maxHeartbeats 4000000 in
set_option maxRecDepth 100000 in
theorem c8_pass (l : Launch) (D : va_G) (cy : Nat → ClassId) (N : Nat) (h0 h0_den h0_folk h0_folk_age h0_folk_riches h0_folk_out : Nat) (oh0_0 oh0_1 oh0_2 oh0_4 oh0_5 oh0_6 oh0_8 oh0_9 oh0_10 oh0_11 oh0_12 oh0_13 oh0_den_0 oh0_den_1 oh0_den_2 oh0_den_5 oh0_den_6 oh0_den_7 oh0_den_8 oh0_den_9 oh0_den_10 oh0_den_11 oh0_den_12 oh0_folk_0 oh0_folk_2 : Value) (p1 : Int32) (v_den_persons : Int32) (v_den_interest : Int32) (v_folk_date : Int32) (v_folk_age : Nat → Int32) (v_folk_riches : Nat → Int32) (v_folk_out : Nat → Int32) (r : Int32) (nv_folk_date : Int32) (nv_folk_age : Nat → Int32) (nv_folk_riches : Nat → Int32) (nv_folk_out : Nat → Int32) (hM : f8_pass N p1 v_den_persons v_den_interest v_folk_date v_folk_age v_folk_riches v_folk_out = some (r, nv_folk_date, nv_folk_age, nv_folk_riches, nv_folk_out)) (sz : Nat) : CTi l yX8_pass wsX8_pass r8_pass [.ref h0, .int p1] D cy sz [(h0, .inr (8, [oh0_0, oh0_1, oh0_2, .ref h0_den, oh0_4, oh0_5, oh0_6, .ref h0_folk, oh0_8, oh0_9, oh0_10, oh0_11, oh0_12, oh0_13])), (h0_den, .inr (0, [oh0_den_0, oh0_den_1, oh0_den_2, .int v_den_persons, .int v_den_interest, oh0_den_5, oh0_den_6, oh0_den_7, oh0_den_8, oh0_den_9, oh0_den_10, oh0_den_11, oh0_den_12])), (h0_folk, .inr (2, [oh0_folk_0, .int v_folk_date, oh0_folk_2, .ref h0_folk_age, .ref h0_folk_riches, .ref h0_folk_out])), (h0_folk_age, .inl (cy 2, 6, .inl v_folk_age)), (h0_folk_riches, .inl (cy 2, 6, .inl v_folk_riches)), (h0_folk_out, .inl (cy 2, 6, .inl v_folk_out))] [(h0, .inr (8, [oh0_0, oh0_1, oh0_2, .ref h0_den, oh0_4, oh0_5, oh0_6, .ref h0_folk, oh0_8, oh0_9, oh0_10, oh0_11, oh0_12, oh0_13])), (h0_den, .inr (0, [oh0_den_0, oh0_den_1, oh0_den_2, .int v_den_persons, .int v_den_interest, oh0_den_5, oh0_den_6, oh0_den_7, oh0_den_8, oh0_den_9, oh0_den_10, oh0_den_11, oh0_den_12])), (h0_folk, .inr (2, [oh0_folk_0, .int nv_folk_date, oh0_folk_2, .ref h0_folk_age, .ref h0_folk_riches, .ref h0_folk_out])), (h0_folk_age, .inl (cy 2, 6, .inl nv_folk_age)), (h0_folk_riches, .inl (cy 2, 6, .inl nv_folk_riches)), (h0_folk_out, .inl (cy 2, 6, .inl nv_folk_out))] r := by
  unfold f8_pass at hM
  refine ct_oi (cc := cX8_pass) (maxL := 2) (ty := .int) (by decide +kernel) rfl (Nat.le_of_ble_eq_true rfl) (lv0 := [(0, .ref h0), (1, .int p1)]) rfl ?_
  intro p e s m args below meth c A Q ls hx hb hts hown hml hK hP hD hS hA hret hl
  have hown : s.vm.findClass RX8 = some m.cls := hown
  have k85 := hts (.constant RX8 85 (-1000000002)) (List.mem_of_getElem? (i := 1) (by decide +kernel))
  have k47 := hts (.fieldLink RX8 47 "CaveYears" "folk" "LCaveYears$Folk;") (List.mem_of_getElem? (i := 2) (by decide +kernel))
  have iX8 := (fun w h => (List.mem_cons_of_mem _ (List.mem_append_left _ (List.mem_append_left _ (List.mem_append_right _ h)))) : ∀ w ∈ wsX80, w ∈ wsX8_pass)
  have k125 := hts (.fieldLink RX8 125 "CaveYears$Folk" "date" "I") (List.mem_of_getElem? (i := 3) (by decide +kernel))
  have iX2 := (fun w h => (List.mem_cons_of_mem _ (List.mem_append_left _ (List.mem_append_right _ h))) : ∀ w ∈ wsX20, w ∈ wsX8_pass)
  have k177 := hts (.constant RX8 177 (9999999)) (List.mem_of_getElem? (i := 4) (by decide +kernel))
  have k23 := hts (.fieldLink RX8 23 "CaveYears" "den" "LCaveYears$Cave;") (List.mem_of_getElem? (i := 6) (by decide +kernel))
  have k86 := hts (.constant RX8 86 (-1000000004)) (List.mem_of_getElem? (i := 5) (by decide +kernel))
  refine lv_iload_n hx hb dX8_pass_0 rfl (lv_at hl 1 rfl) ?_
  refine lv_iconst (v := 1) hx hb dX8_pass_1 (by decide) ?_
  refine lv_icmp_lt (tgt := 12) hx hb dX8_pass_2 (by decide) (fun c2 => ?_) (fun c2 => ?_)
  · have hM := g_pos c2 hM
    refine lv_ldc (v := -1000000002) hx hb hown k85 dX8_pass_12 ?_
    obtain ⟨rfl, rfl, rfl, rfl, rfl⟩ := si5 hM
    exact hret _ _ _ _ _ dX8_pass_14 rfl rfl hP hD hS
  · have hM := g_neg c2 hM
    refine lv_iload_n hx hb dX8_pass_5 rfl (lv_at hl 1 rfl) ?_
    refine lv_sipush (v := 9999) hx hb dX8_pass_6 (by decide) ?_
    refine lv_icmp_le (tgt := 15) hx hb dX8_pass_9 (by decide) (fun c9 => ?_) (fun c9 => ?_)
    · have hM := g_pos c9 hM
      refine lv_aload_n hx hb dX8_pass_15 rfl (lv_at hl 0 rfl) ?_
      refine va_get (D := D) (ci := 8) (v := .ref h0_folk) (C := RX8) (T := TX8) (N := 14) hx hb hts iX8 hown hK hP 0 rfl rfl 7 (by decide) k47 (fun _ h9 => h9) rfl dX8_pass_16 ?_
      refine va_get (D := D) (ci := 2) (v := .int v_folk_date) (C := RX2) (T := TX2) (N := 6) hx hb hts iX2 hown hK hP 2 rfl rfl 1 (by decide) k125 (fun _ h9 => h9) rfl dX8_pass_19 ?_
      refine lv_iload_n hx hb dX8_pass_22 rfl (lv_at hl 1 rfl) ?_
      refine lv_iadd hx hb dX8_pass_23 ?_
      refine lv_ldc (v := 9999999) hx hb hown k177 dX8_pass_24 ?_
      refine lv_icmp_le (tgt := 32) hx hb dX8_pass_26 (by decide) (fun c26 => ?_) (fun c26 => ?_)
      · have hM := g_pos c26 hM
        refine lv_aload_n hx hb dX8_pass_32 rfl (lv_at hl 0 rfl) ?_
        refine va_get (D := D) (ci := 8) (v := .ref h0_folk) (C := RX8) (T := TX8) (N := 14) hx hb hts iX8 hown hK hP 0 rfl rfl 7 (by decide) k47 (fun _ h9 => h9) rfl dX8_pass_33 ?_
        refine lv_iload_n hx hb dX8_pass_36 rfl (lv_at hl 1 rfl) ?_
        refine lv_aload_n hx hb dX8_pass_37 rfl (lv_at hl 0 rfl) ?_
        refine va_get (D := D) (ci := 8) (v := .ref h0_den) (C := RX8) (T := TX8) (N := 14) hx hb hts iX8 hown hK hP 0 rfl rfl 3 (by decide) k23 (fun _ h9 => h9) rfl dX8_pass_38 ?_
        obtain ⟨v_folk_date_41, v_folk_age_41, v_folk_riches_41, v_folk_out_41, hc41, hM⟩ := ob4_some hM
        refine cl_vv (As := [.int p1, .ref h0_den]) (rest := []) (ci := 2) (q0 := 2) (wr := [(h0, .inr (8, [oh0_0, oh0_1, oh0_2, .ref h0_den, oh0_4, oh0_5, oh0_6, .ref h0_folk, oh0_8, oh0_9, oh0_10, oh0_11, oh0_12, oh0_13]))]) (ws2 := [(h0, .inr (8, [oh0_0, oh0_1, oh0_2, .ref h0_den, oh0_4, oh0_5, oh0_6, .ref h0_folk, oh0_8, oh0_9, oh0_10, oh0_11, oh0_12, oh0_13])), (h0_den, .inr (0, [oh0_den_0, oh0_den_1, oh0_den_2, .int v_den_persons, .int v_den_interest, oh0_den_5, oh0_den_6, oh0_den_7, oh0_den_8, oh0_den_9, oh0_den_10, oh0_den_11, oh0_den_12])), (h0_folk, .inr (2, [oh0_folk_0, .int v_folk_date_41, oh0_folk_2, .ref h0_folk_age, .ref h0_folk_riches, .ref h0_folk_out])), (h0_folk_age, .inl (cy 2, 6, .inl v_folk_age_41)), (h0_folk_riches, .inl (cy 2, 6, .inl v_folk_riches_41)), (h0_folk_out, .inl (cy 2, 6, .inl v_folk_out_41))]) (isC := [2, 3, 4, 5, 1]) (isR := [0]) (pm := [0, 5, 1, 2, 3, 4]) hx hb hml hown hts (c2_letPass l D cy N h0_folk h0_folk_age h0_folk_riches h0_folk_out h0_den oh0_folk_0 oh0_folk_2 oh0_den_0 oh0_den_1 oh0_den_2 oh0_den_5 oh0_den_6 oh0_den_7 oh0_den_8 oh0_den_9 oh0_den_10 oh0_den_11 oh0_den_12 p1 v_folk_date v_folk_age v_folk_riches v_folk_out v_den_persons v_den_interest v_folk_date_41 v_folk_age_41 v_folk_riches_41 v_folk_out_41 hc41) (cwV 2 hts gX8_pass_X2_letPass rfl rfl rfl (by decide +kernel) ⟨Nat.le_of_ble_eq_true rfl, Nat.le_of_ble_eq_true rfl⟩) hK hP hD hS hA rfl rfl rfl rfl rfl (by decide) rfl rfl rfl hl.1 (Nat.le_of_ble_eq_true rfl) dX8_pass_41 ⟨Nat.zero_le _, Nat.zero_le _⟩ rfl rfl (fun H locs hP hD hS => ?_)
        refine lv_aload_n hx hb dX8_pass_44 rfl (lv_at hl 0 rfl) ?_
        refine va_get (D := D) (ci := 8) (v := .ref h0_folk) (C := RX8) (T := TX8) (N := 14) hx hb hts iX8 hown hK hP 0 rfl rfl 7 (by decide) k47 (fun _ h9 => h9) rfl dX8_pass_45 ?_
        refine va_get (D := D) (ci := 2) (v := .int v_folk_date_41) (C := RX2) (T := TX2) (N := 6) hx hb hts iX2 hown hK hP 2 rfl rfl 1 (by decide) k125 (fun _ h9 => h9) rfl dX8_pass_48 ?_
        obtain ⟨rfl, rfl, rfl, rfl, rfl⟩ := si5 hM
        exact hret _ _ _ _ _ dX8_pass_51 rfl rfl hP hD hS
      · have hM := g_neg c26 hM
        refine lv_ldc (v := -1000000004) hx hb hown k86 dX8_pass_29 ?_
        obtain ⟨rfl, rfl, rfl, rfl, rfl⟩ := si5 hM
        exact hret _ _ _ _ _ dX8_pass_31 rfl rfl hP hD hS
    · have hM := g_neg c9 hM
      refine lv_ldc (v := -1000000002) hx hb hown k85 dX8_pass_12 ?_
      obtain ⟨rfl, rfl, rfl, rfl, rfl⟩ := si5 hM
      exact hret _ _ _ _ _ dX8_pass_14 rfl rfl hP hD hS

-- ===== X8_drift drift (I)I =====
abbrev r8_drift : Room := { frames := 5, cells := 0, slots := 0, locals := 122 }
def f8_drift_L54 (N : Nat) (p1 : Int32) (v_den_parts : Int32) (v_den_mouths : Int32) (v_den_persons : Int32) (v_den_interest : Int32) (v_den_rate : Nat → Int32) : Nat → Int32 → Int32 → Int32 → (Nat → Int32) → (Nat → Int32) → (Nat → Int32) → Option (Int32 × Int32 × (Nat → Int32) × (Nat → Int32) × (Nat → Int32))
  | 0, _, _, _, _, _, _ => none
  | n + 1, x2_54, v_folk_date_54, v_folk_drawSeed_54, v_folk_age_54, v_folk_riches_54, v_folk_out_54 => if p1 ≤ x2_54 then (some (v_folk_date_54, v_folk_drawSeed_54, v_folk_age_54, v_folk_riches_54, v_folk_out_54)) else (ob5 (f2_driftOnce N v_folk_date_54 v_folk_drawSeed_54 v_folk_age_54 v_folk_riches_54 v_folk_out_54 v_den_parts v_den_mouths v_den_persons v_den_interest v_den_rate) fun v_folk_date_67 v_folk_drawSeed_67 v_folk_age_67 v_folk_riches_67 v_folk_out_67 => (f8_drift_L54 N p1 v_den_parts v_den_mouths v_den_persons v_den_interest v_den_rate n) (x2_54 + (1 : Int32)) v_folk_date_67 v_folk_drawSeed_67 v_folk_age_67 v_folk_riches_67 v_folk_out_67)
def f8_drift (N : Nat) (p1 : Int32) (v_den_parts : Int32) (v_den_mouths : Int32) (v_den_persons : Int32) (v_den_interest : Int32) (v_den_rate : Nat → Int32) (v_folk_date : Int32) (v_folk_drawSeed : Int32) (v_folk_age : Nat → Int32) (v_folk_riches : Nat → Int32) (v_folk_out : Nat → Int32) : Option (Int32 × Int32 × Int32 × (Nat → Int32) × (Nat → Int32) × (Nat → Int32)) :=
  if p1 < (1 : Int32) then (some ((-1000000002 : Int32), v_folk_date, v_folk_drawSeed, v_folk_age, v_folk_riches, v_folk_out)) else (if p1 ≤ (99 : Int32) then (if v_den_parts = (0 : Int32) then (some ((-1000000003 : Int32), v_folk_date, v_folk_drawSeed, v_folk_age, v_folk_riches, v_folk_out)) else (if v_den_persons = (0 : Int32) then (some ((-1000000003 : Int32), v_folk_date, v_folk_drawSeed, v_folk_age, v_folk_riches, v_folk_out)) else (if v_folk_date ≤ (9990000 : Int32) then (ob5 (f8_drift_L54 N p1 v_den_parts v_den_mouths v_den_persons v_den_interest v_den_rate N (0 : Int32) v_folk_date v_folk_drawSeed v_folk_age v_folk_riches v_folk_out) fun v_folk_date_e54 v_folk_drawSeed_e54 v_folk_age_e54 v_folk_riches_e54 v_folk_out_e54 => some (v_folk_date_e54, v_folk_date_e54, v_folk_drawSeed_e54, v_folk_age_e54, v_folk_riches_e54, v_folk_out_e54)) else (some ((-1000000004 : Int32), v_folk_date, v_folk_drawSeed, v_folk_age, v_folk_riches, v_folk_out))))) else (some ((-1000000002 : Int32), v_folk_date, v_folk_drawSeed, v_folk_age, v_folk_riches, v_folk_out)))
set_option maxHeartbeats 4000000 in
set_option maxRecDepth 100000 in
theorem c8_drift (l : Launch) (D : va_G) (cy : Nat → ClassId) (N : Nat) (h0 h0_den h0_den_rate h0_folk h0_folk_age h0_folk_riches h0_folk_out : Nat) (oh0_0 oh0_1 oh0_2 oh0_4 oh0_5 oh0_6 oh0_8 oh0_9 oh0_10 oh0_11 oh0_12 oh0_13 oh0_den_2 oh0_den_5 oh0_den_6 oh0_den_8 oh0_den_9 oh0_den_10 oh0_den_11 oh0_den_12 oh0_folk_0 : Value) (p1 : Int32) (v_den_parts : Int32) (v_den_mouths : Int32) (v_den_persons : Int32) (v_den_interest : Int32) (v_den_rate : Nat → Int32) (v_folk_date : Int32) (v_folk_drawSeed : Int32) (v_folk_age : Nat → Int32) (v_folk_riches : Nat → Int32) (v_folk_out : Nat → Int32) (r : Int32) (nv_folk_date : Int32) (nv_folk_drawSeed : Int32) (nv_folk_age : Nat → Int32) (nv_folk_riches : Nat → Int32) (nv_folk_out : Nat → Int32) (hM : f8_drift N p1 v_den_parts v_den_mouths v_den_persons v_den_interest v_den_rate v_folk_date v_folk_drawSeed v_folk_age v_folk_riches v_folk_out = some (r, nv_folk_date, nv_folk_drawSeed, nv_folk_age, nv_folk_riches, nv_folk_out)) (sz : Nat) : CTi l yX8_drift wsX8_drift r8_drift [.ref h0, .int p1] D cy sz [(h0, .inr (8, [oh0_0, oh0_1, oh0_2, .ref h0_den, oh0_4, oh0_5, oh0_6, .ref h0_folk, oh0_8, oh0_9, oh0_10, oh0_11, oh0_12, oh0_13])), (h0_den, .inr (0, [.int v_den_parts, .int v_den_mouths, oh0_den_2, .int v_den_persons, .int v_den_interest, oh0_den_5, oh0_den_6, .ref h0_den_rate, oh0_den_8, oh0_den_9, oh0_den_10, oh0_den_11, oh0_den_12])), (h0_den_rate, .inl (cy 2, 7, .inl v_den_rate)), (h0_folk, .inr (2, [oh0_folk_0, .int v_folk_date, .int v_folk_drawSeed, .ref h0_folk_age, .ref h0_folk_riches, .ref h0_folk_out])), (h0_folk_age, .inl (cy 2, 6, .inl v_folk_age)), (h0_folk_riches, .inl (cy 2, 6, .inl v_folk_riches)), (h0_folk_out, .inl (cy 2, 6, .inl v_folk_out))] [(h0, .inr (8, [oh0_0, oh0_1, oh0_2, .ref h0_den, oh0_4, oh0_5, oh0_6, .ref h0_folk, oh0_8, oh0_9, oh0_10, oh0_11, oh0_12, oh0_13])), (h0_den, .inr (0, [.int v_den_parts, .int v_den_mouths, oh0_den_2, .int v_den_persons, .int v_den_interest, oh0_den_5, oh0_den_6, .ref h0_den_rate, oh0_den_8, oh0_den_9, oh0_den_10, oh0_den_11, oh0_den_12])), (h0_den_rate, .inl (cy 2, 7, .inl v_den_rate)), (h0_folk, .inr (2, [oh0_folk_0, .int nv_folk_date, .int nv_folk_drawSeed, .ref h0_folk_age, .ref h0_folk_riches, .ref h0_folk_out])), (h0_folk_age, .inl (cy 2, 6, .inl nv_folk_age)), (h0_folk_riches, .inl (cy 2, 6, .inl nv_folk_riches)), (h0_folk_out, .inl (cy 2, 6, .inl nv_folk_out))] r := by
  unfold f8_drift at hM
  refine ct_oi (cc := cX8_drift) (maxL := 3) (ty := .int) (by decide +kernel) rfl (Nat.le_of_ble_eq_true rfl) (lv0 := [(0, .ref h0), (1, .int p1)]) rfl ?_
  intro p e s m args below meth c A Q ls hx hb hts hown hml hK hP hD hS hA hret hl
  have hown : s.vm.findClass RX8 = some m.cls := hown
  have k85 := hts (.constant RX8 85 (-1000000002)) (List.mem_of_getElem? (i := 1) (by decide +kernel))
  have k23 := hts (.fieldLink RX8 23 "CaveYears" "den" "LCaveYears$Cave;") (List.mem_of_getElem? (i := 2) (by decide +kernel))
  have iX8 := (fun w h => (List.mem_cons_of_mem _ (List.mem_append_left _ (List.mem_append_left _ (List.mem_append_right _ h)))) : ∀ w ∈ wsX80, w ∈ wsX8_drift)
  have k110 := hts (.fieldLink RX8 110 "CaveYears$Cave" "parts" "I") (List.mem_of_getElem? (i := 3) (by decide +kernel))
  have iX0 := (fun w h => (List.mem_cons_of_mem _ (List.mem_append_left _ (List.mem_append_right _ h))) : ∀ w ∈ wsX00, w ∈ wsX8_drift)
  have k172 := hts (.constant RX8 172 (-1000000003)) (List.mem_of_getElem? (i := 5) (by decide +kernel))
  have k116 := hts (.fieldLink RX8 116 "CaveYears$Cave" "persons" "I") (List.mem_of_getElem? (i := 4) (by decide +kernel))
  have k47 := hts (.fieldLink RX8 47 "CaveYears" "folk" "LCaveYears$Folk;") (List.mem_of_getElem? (i := 6) (by decide +kernel))
  have k125 := hts (.fieldLink RX8 125 "CaveYears$Folk" "date" "I") (List.mem_of_getElem? (i := 7) (by decide +kernel))
  have iX2 := (fun w h => (List.mem_cons_of_mem _ (List.mem_append_right _ h)) : ∀ w ∈ wsX20, w ∈ wsX8_drift)
  have k182 := hts (.constant RX8 182 (9990000)) (List.mem_of_getElem? (i := 8) (by decide +kernel))
  have k86 := hts (.constant RX8 86 (-1000000004)) (List.mem_of_getElem? (i := 9) (by decide +kernel))
  refine lv_iload_n hx hb dX8_drift_0 rfl (lv_at hl 1 rfl) ?_
  refine lv_iconst (v := 1) hx hb dX8_drift_1 (by decide) ?_
  refine lv_icmp_lt (tgt := 11) hx hb dX8_drift_2 (by decide) (fun c2 => ?_) (fun c2 => ?_)
  · have hM := g_pos c2 hM
    refine lv_ldc (v := -1000000002) hx hb hown k85 dX8_drift_11 ?_
    obtain ⟨rfl, rfl, rfl, rfl, rfl, rfl⟩ := si6 hM
    exact hret _ _ _ _ _ dX8_drift_13 rfl rfl hP hD hS
  · have hM := g_neg c2 hM
    refine lv_iload_n hx hb dX8_drift_5 rfl (lv_at hl 1 rfl) ?_
    refine lv_bipush (v := 99) hx hb dX8_drift_6 (by decide) ?_
    refine lv_icmp_le (tgt := 14) hx hb dX8_drift_8 (by decide) (fun c8 => ?_) (fun c8 => ?_)
    · have hM := g_pos c8 hM
      refine lv_aload_n hx hb dX8_drift_14 rfl (lv_at hl 0 rfl) ?_
      refine va_get (D := D) (ci := 8) (v := .ref h0_den) (C := RX8) (T := TX8) (N := 14) hx hb hts iX8 hown hK hP 0 rfl rfl 3 (by decide) k23 (fun _ h9 => h9) rfl dX8_drift_15 ?_
      refine va_get (D := D) (ci := 0) (v := .int v_den_parts) (C := RX0) (T := TX0) (N := 13) hx hb hts iX0 hown hK hP 1 rfl rfl 0 (by decide) k110 (fun _ h9 => h9) rfl dX8_drift_18 ?_
      refine lv_if_eq (tgt := 34) hx hb dX8_drift_21 (by decide) (fun c21 => ?_) (fun c21 => ?_)
      · have hM := g_pos c21 hM
        refine lv_ldc (v := -1000000003) hx hb hown k172 dX8_drift_34 ?_
        obtain ⟨rfl, rfl, rfl, rfl, rfl, rfl⟩ := si6 hM
        exact hret _ _ _ _ _ dX8_drift_36 rfl rfl hP hD hS
      · have hM := g_neg c21 hM
        refine lv_aload_n hx hb dX8_drift_24 rfl (lv_at hl 0 rfl) ?_
        refine va_get (D := D) (ci := 8) (v := .ref h0_den) (C := RX8) (T := TX8) (N := 14) hx hb hts iX8 hown hK hP 0 rfl rfl 3 (by decide) k23 (fun _ h9 => h9) rfl dX8_drift_25 ?_
        refine va_get (D := D) (ci := 0) (v := .int v_den_persons) (C := RX0) (T := TX0) (N := 13) hx hb hts iX0 hown hK hP 1 rfl rfl 3 (by decide) k116 (fun _ h9 => h9) rfl dX8_drift_28 ?_
        refine lv_if_ne (tgt := 37) hx hb dX8_drift_31 (by decide) (fun c31 => ?_) (fun c31 => ?_)
        · have hM := g_neg c31 hM
          refine lv_aload_n hx hb dX8_drift_37 rfl (lv_at hl 0 rfl) ?_
          refine va_get (D := D) (ci := 8) (v := .ref h0_folk) (C := RX8) (T := TX8) (N := 14) hx hb hts iX8 hown hK hP 0 rfl rfl 7 (by decide) k47 (fun _ h9 => h9) rfl dX8_drift_38 ?_
          refine va_get (D := D) (ci := 2) (v := .int v_folk_date) (C := RX2) (T := TX2) (N := 6) hx hb hts iX2 hown hK hP 3 rfl rfl 1 (by decide) k125 (fun _ h9 => h9) rfl dX8_drift_41 ?_
          refine lv_ldc (v := 9990000) hx hb hown k182 dX8_drift_44 ?_
          refine lv_icmp_le (tgt := 52) hx hb dX8_drift_46 (by decide) (fun c46 => ?_) (fun c46 => ?_)
          · have hM := g_pos c46 hM
            refine lv_iconst (v := 0) hx hb dX8_drift_52 (by decide) ?_
            refine lv_istore_n (lv' := [(2, .int (0 : Int32)), (0, .ref h0), (1, .int p1)]) hx hb dX8_drift_53 rfl hl (by decide) rfl (fun ls hl => ?_)
            have L54 : ∀ (n : Nat) (x2_54 : Int32) (v_folk_date_54 : Int32) (v_folk_drawSeed_54 : Int32) (v_folk_age_54 : Nat → Int32) (v_folk_riches_54 : Nat → Int32) (v_folk_out_54 : Nat → Int32) (v_folk_date_e54 : Int32) (v_folk_drawSeed_e54 : Int32) (v_folk_age_e54 : Nat → Int32) (v_folk_riches_e54 : Nat → Int32) (v_folk_out_e54 : Nat → Int32) (H : Heap) (locs : List Loc) (ls : Array Slot), f8_drift_L54 N p1 v_den_parts v_den_mouths v_den_persons v_den_interest v_den_rate n x2_54 v_folk_date_54 v_folk_drawSeed_54 v_folk_age_54 v_folk_riches_54 v_folk_out_54 = some (v_folk_date_e54, v_folk_drawSeed_e54, v_folk_age_e54, v_folk_riches_e54, v_folk_out_e54) → va_P D vwCl [(h0, .inr (8, [oh0_0, oh0_1, oh0_2, .ref h0_den, oh0_4, oh0_5, oh0_6, .ref h0_folk, oh0_8, oh0_9, oh0_10, oh0_11, oh0_12, oh0_13])), (h0_den, .inr (0, [.int v_den_parts, .int v_den_mouths, oh0_den_2, .int v_den_persons, .int v_den_interest, oh0_den_5, oh0_den_6, .ref h0_den_rate, oh0_den_8, oh0_den_9, oh0_den_10, oh0_den_11, oh0_den_12])), (h0_den_rate, .inl (cy 2, 7, .inl v_den_rate)), (h0_folk, .inr (2, [oh0_folk_0, .int v_folk_date_54, .int v_folk_drawSeed_54, .ref h0_folk_age, .ref h0_folk_riches, .ref h0_folk_out])), (h0_folk_age, .inl (cy 2, 6, .inl v_folk_age_54)), (h0_folk_riches, .inl (cy 2, 6, .inl v_folk_riches_54)), (h0_folk_out, .inl (cy 2, 6, .inl v_folk_out_54))] H → va_D A [(h0, .inr (8, [oh0_0, oh0_1, oh0_2, .ref h0_den, oh0_4, oh0_5, oh0_6, .ref h0_folk, oh0_8, oh0_9, oh0_10, oh0_11, oh0_12, oh0_13])), (h0_den, .inr (0, [.int v_den_parts, .int v_den_mouths, oh0_den_2, .int v_den_persons, .int v_den_interest, oh0_den_5, oh0_den_6, .ref h0_den_rate, oh0_den_8, oh0_den_9, oh0_den_10, oh0_den_11, oh0_den_12])), (h0_den_rate, .inl (cy 2, 7, .inl v_den_rate)), (h0_folk, .inr (2, [oh0_folk_0, .int v_folk_date_54, .int v_folk_drawSeed_54, .ref h0_folk_age, .ref h0_folk_riches, .ref h0_folk_out])), (h0_folk_age, .inl (cy 2, 6, .inl v_folk_age_54)), (h0_folk_riches, .inl (cy 2, 6, .inl v_folk_riches_54)), (h0_folk_out, .inl (cy 2, 6, .inl v_folk_out_54))] → va_S A s.heap H locs → lv_has ls 3 [(0, .ref h0), (1, .int p1), (2, .int x2_54)] → (∀ (H : Heap) (locs : List Loc) (ls : Array Slot), va_P D vwCl [(h0, .inr (8, [oh0_0, oh0_1, oh0_2, .ref h0_den, oh0_4, oh0_5, oh0_6, .ref h0_folk, oh0_8, oh0_9, oh0_10, oh0_11, oh0_12, oh0_13])), (h0_den, .inr (0, [.int v_den_parts, .int v_den_mouths, oh0_den_2, .int v_den_persons, .int v_den_interest, oh0_den_5, oh0_den_6, .ref h0_den_rate, oh0_den_8, oh0_den_9, oh0_den_10, oh0_den_11, oh0_den_12])), (h0_den_rate, .inl (cy 2, 7, .inl v_den_rate)), (h0_folk, .inr (2, [oh0_folk_0, .int v_folk_date_e54, .int v_folk_drawSeed_e54, .ref h0_folk_age, .ref h0_folk_riches, .ref h0_folk_out])), (h0_folk_age, .inl (cy 2, 6, .inl v_folk_age_e54)), (h0_folk_riches, .inl (cy 2, 6, .inl v_folk_riches_e54)), (h0_folk_out, .inl (cy 2, 6, .inl v_folk_out_e54))] H → va_D A [(h0, .inr (8, [oh0_0, oh0_1, oh0_2, .ref h0_den, oh0_4, oh0_5, oh0_6, .ref h0_folk, oh0_8, oh0_9, oh0_10, oh0_11, oh0_12, oh0_13])), (h0_den, .inr (0, [.int v_den_parts, .int v_den_mouths, oh0_den_2, .int v_den_persons, .int v_den_interest, oh0_den_5, oh0_den_6, .ref h0_den_rate, oh0_den_8, oh0_den_9, oh0_den_10, oh0_den_11, oh0_den_12])), (h0_den_rate, .inl (cy 2, 7, .inl v_den_rate)), (h0_folk, .inr (2, [oh0_folk_0, .int v_folk_date_e54, .int v_folk_drawSeed_e54, .ref h0_folk_age, .ref h0_folk_riches, .ref h0_folk_out])), (h0_folk_age, .inl (cy 2, 6, .inl v_folk_age_e54)), (h0_folk_riches, .inl (cy 2, 6, .inl v_folk_riches_e54)), (h0_folk_out, .inl (cy 2, 6, .inl v_folk_out_e54))] → va_S A s.heap H locs → lv_has ls 3 [(0, .ref h0)] → W p l e r8_drift s m args below meth c H locs 0 0 Q (F0 m 76 ls [])) → W p l e r8_drift s m args below meth c H locs 0 0 Q (F0 m 54 ls []) := by
              intro n54
              induction n54 with
              | zero =>
                intro x2_54 v_folk_date_54 v_folk_drawSeed_54 v_folk_age_54 v_folk_riches_54 v_folk_out_54 v_folk_date_e54 v_folk_drawSeed_e54 v_folk_age_e54 v_folk_riches_e54 v_folk_out_e54 H locs ls hM
                exact absurd hM (by simp [f8_drift_L54])
              | succ n54 ih54 =>
                intro x2_54 v_folk_date_54 v_folk_drawSeed_54 v_folk_age_54 v_folk_riches_54 v_folk_out_54 v_folk_date_e54 v_folk_drawSeed_e54 v_folk_age_e54 v_folk_riches_e54 v_folk_out_e54 H locs ls hM hP hD hS hl K
                rw [f8_drift_L54] at hM
                refine lv_iload_n hx hb dX8_drift_54 rfl (lv_at hl 2 rfl) ?_
                refine lv_iload_n hx hb dX8_drift_55 rfl (lv_at hl 1 rfl) ?_
                refine lv_icmp_ge (tgt := 76) hx hb dX8_drift_56 (by decide) (fun c56 => ?_) (fun c56 => ?_)
                · have hM := g_pos c56 hM
                  obtain ⟨rfl, rfl, rfl, rfl, rfl⟩ := si5 hM
                  exact K _ _ _ hP hD hS (lv_sub hl [0] rfl)
                · have hM := g_neg c56 hM
                  refine lv_aload_n hx hb dX8_drift_59 rfl (lv_at hl 0 rfl) ?_
                  refine va_get (D := D) (ci := 8) (v := .ref h0_folk) (C := RX8) (T := TX8) (N := 14) hx hb hts iX8 hown hK hP 0 rfl rfl 7 (by decide) k47 (fun _ h9 => h9) rfl dX8_drift_60 ?_
                  refine lv_aload_n hx hb dX8_drift_63 rfl (lv_at hl 0 rfl) ?_
                  refine va_get (D := D) (ci := 8) (v := .ref h0_den) (C := RX8) (T := TX8) (N := 14) hx hb hts iX8 hown hK hP 0 rfl rfl 3 (by decide) k23 (fun _ h9 => h9) rfl dX8_drift_64 ?_
                  obtain ⟨v_folk_date_67, v_folk_drawSeed_67, v_folk_age_67, v_folk_riches_67, v_folk_out_67, hc67, hM⟩ := ob5_some hM
                  refine cl_vv (As := [.ref h0_den]) (rest := []) (ci := 2) (q0 := 3) (wr := [(h0, .inr (8, [oh0_0, oh0_1, oh0_2, .ref h0_den, oh0_4, oh0_5, oh0_6, .ref h0_folk, oh0_8, oh0_9, oh0_10, oh0_11, oh0_12, oh0_13]))]) (ws2 := [(h0, .inr (8, [oh0_0, oh0_1, oh0_2, .ref h0_den, oh0_4, oh0_5, oh0_6, .ref h0_folk, oh0_8, oh0_9, oh0_10, oh0_11, oh0_12, oh0_13])), (h0_den, .inr (0, [.int v_den_parts, .int v_den_mouths, oh0_den_2, .int v_den_persons, .int v_den_interest, oh0_den_5, oh0_den_6, .ref h0_den_rate, oh0_den_8, oh0_den_9, oh0_den_10, oh0_den_11, oh0_den_12])), (h0_den_rate, .inl (cy 2, 7, .inl v_den_rate)), (h0_folk, .inr (2, [oh0_folk_0, .int v_folk_date_67, .int v_folk_drawSeed_67, .ref h0_folk_age, .ref h0_folk_riches, .ref h0_folk_out])), (h0_folk_age, .inl (cy 2, 6, .inl v_folk_age_67)), (h0_folk_riches, .inl (cy 2, 6, .inl v_folk_riches_67)), (h0_folk_out, .inl (cy 2, 6, .inl v_folk_out_67))]) (isC := [3, 4, 5, 6, 1, 2]) (isR := [0]) (pm := [0, 5, 6, 1, 2, 3, 4]) hx hb hml hown hts (c2_driftOnce l D cy N h0_folk h0_folk_age h0_folk_riches h0_folk_out h0_den h0_den_rate oh0_folk_0 oh0_den_2 oh0_den_5 oh0_den_6 oh0_den_8 oh0_den_9 oh0_den_10 oh0_den_11 oh0_den_12 v_folk_date_54 v_folk_drawSeed_54 v_folk_age_54 v_folk_riches_54 v_folk_out_54 v_den_parts v_den_mouths v_den_persons v_den_interest v_den_rate v_folk_date_67 v_folk_drawSeed_67 v_folk_age_67 v_folk_riches_67 v_folk_out_67 hc67) (cwV 1 hts gX8_drift_X2_driftOnce rfl rfl rfl (by decide +kernel) ⟨Nat.le_of_ble_eq_true rfl, Nat.le_of_ble_eq_true rfl⟩) hK hP hD hS hA rfl rfl rfl rfl rfl (by decide) rfl rfl rfl hl.1 (Nat.le_of_ble_eq_true rfl) dX8_drift_67 ⟨Nat.zero_le _, Nat.zero_le _⟩ rfl rfl (fun H locs hP hD hS => ?_)
                  refine lv_iinc (v := x2_54 + (1 : Int32)) (lv' := [(2, .int (x2_54 + (1 : Int32))), (0, .ref h0), (1, .int p1)]) hx hb dX8_drift_70 hl (k := 2) rfl rfl (by decide) rfl (fun ls hl => ?_)
                  refine lv_goto (tgt := 54) hx hb dX8_drift_73 (by decide) ?_
                  exact ih54 (x2_54 + (1 : Int32)) v_folk_date_67 v_folk_drawSeed_67 v_folk_age_67 v_folk_riches_67 v_folk_out_67 v_folk_date_e54 v_folk_drawSeed_e54 v_folk_age_e54 v_folk_riches_e54 v_folk_out_e54 _ _ _ hM hP hD hS (lv_sub hl [1, 2, 0] rfl) K
            obtain ⟨v_folk_date_e54, v_folk_drawSeed_e54, v_folk_age_e54, v_folk_riches_e54, v_folk_out_e54, hL54, hM⟩ := ob5_some hM
            refine L54 N (0 : Int32) v_folk_date v_folk_drawSeed v_folk_age v_folk_riches v_folk_out v_folk_date_e54 v_folk_drawSeed_e54 v_folk_age_e54 v_folk_riches_e54 v_folk_out_e54 _ _ _ hL54 hP hD hS (lv_sub hl [1, 2, 0] rfl) ?_
            intro H locs ls hP hD hS hl
            refine lv_aload_n hx hb dX8_drift_76 rfl (lv_at hl 0 rfl) ?_
            refine va_get (D := D) (ci := 8) (v := .ref h0_folk) (C := RX8) (T := TX8) (N := 14) hx hb hts iX8 hown hK hP 0 rfl rfl 7 (by decide) k47 (fun _ h9 => h9) rfl dX8_drift_77 ?_
            refine va_get (D := D) (ci := 2) (v := .int v_folk_date_e54) (C := RX2) (T := TX2) (N := 6) hx hb hts iX2 hown hK hP 3 rfl rfl 1 (by decide) k125 (fun _ h9 => h9) rfl dX8_drift_80 ?_
            obtain ⟨rfl, rfl, rfl, rfl, rfl, rfl⟩ := si6 hM
            exact hret _ _ _ _ _ dX8_drift_83 rfl rfl hP hD hS
          · have hM := g_neg c46 hM
            refine lv_ldc (v := -1000000004) hx hb hown k86 dX8_drift_49 ?_
            obtain ⟨rfl, rfl, rfl, rfl, rfl, rfl⟩ := si6 hM
            exact hret _ _ _ _ _ dX8_drift_51 rfl rfl hP hD hS
        · have hM := g_pos c31 hM
          refine lv_ldc (v := -1000000003) hx hb hown k172 dX8_drift_34 ?_
          obtain ⟨rfl, rfl, rfl, rfl, rfl, rfl⟩ := si6 hM
          exact hret _ _ _ _ _ dX8_drift_36 rfl rfl hP hD hS
    · have hM := g_neg c8 hM
      refine lv_ldc (v := -1000000002) hx hb hown k85 dX8_drift_11 ?_
      obtain ⟨rfl, rfl, rfl, rfl, rfl, rfl⟩ := si6 hM
      exact hret _ _ _ _ _ dX8_drift_13 rfl rfl hP hD hS

-- ===== X8_meeting meeting (III)I =====
abbrev r8_meeting : Room := { frames := 2, cells := 0, slots := 0, locals := 46 }
def f8_meeting (N : Nat) (p1 : Int32) (p2 : Int32) (p3 : Int32) (v_den_persons : Int32) (v_folk_date : Int32) (v_folk_age : Nat → Int32) (v_folk_out : Nat → Int32) : Option Int32 :=
  ob1 (f0_hasPerson N p1 v_den_persons) fun r5 => if r5 = (0 : Int32) then (some (-1000000001 : Int32)) else (ob1 (f0_hasPerson N p2 v_den_persons) fun r16 => if r16 = (0 : Int32) then (some (-1000000001 : Int32)) else (if p1 = p2 then (some (-1000000001 : Int32)) else (ob1 (f2_meetingDate N p1 p2 v_folk_date v_folk_out) fun r36 => if p3 = (0 : Int32) then (some r36) else (if p3 = (1 : Int32) then (ob1 (f2_ageAt N p1 r36 v_folk_date v_folk_age v_folk_out) fun r78 => some r78) else (if p3 = (2 : Int32) then (ob1 (f2_ageAt N p2 r36 v_folk_date v_folk_age v_folk_out) fun r89 => some r89) else (some (-1000000002 : Int32)))))))
set_option maxHeartbeats 4000000 in
set_option maxRecDepth 100000 in
theorem c8_meeting (l : Launch) (D : va_G) (cy : Nat → ClassId) (N : Nat) (h0 h0_den h0_folk h0_folk_age h0_folk_out : Nat) (oh0_0 oh0_1 oh0_2 oh0_4 oh0_5 oh0_6 oh0_8 oh0_9 oh0_10 oh0_11 oh0_12 oh0_13 oh0_den_0 oh0_den_1 oh0_den_2 oh0_den_4 oh0_den_5 oh0_den_6 oh0_den_7 oh0_den_8 oh0_den_9 oh0_den_10 oh0_den_11 oh0_den_12 oh0_folk_0 oh0_folk_2 oh0_folk_4 : Value) (p1 : Int32) (p2 : Int32) (p3 : Int32) (v_den_persons : Int32) (v_folk_date : Int32) (v_folk_age : Nat → Int32) (v_folk_out : Nat → Int32) (r : Int32) (hM : f8_meeting N p1 p2 p3 v_den_persons v_folk_date v_folk_age v_folk_out = some r) (sz : Nat) : CTi l yX8_meeting wsX8_meeting r8_meeting [.ref h0, .int p1, .int p2, .int p3] D cy sz [(h0, .inr (8, [oh0_0, oh0_1, oh0_2, .ref h0_den, oh0_4, oh0_5, oh0_6, .ref h0_folk, oh0_8, oh0_9, oh0_10, oh0_11, oh0_12, oh0_13])), (h0_den, .inr (0, [oh0_den_0, oh0_den_1, oh0_den_2, .int v_den_persons, oh0_den_4, oh0_den_5, oh0_den_6, oh0_den_7, oh0_den_8, oh0_den_9, oh0_den_10, oh0_den_11, oh0_den_12])), (h0_folk, .inr (2, [oh0_folk_0, .int v_folk_date, oh0_folk_2, .ref h0_folk_age, oh0_folk_4, .ref h0_folk_out])), (h0_folk_age, .inl (cy 2, 6, .inl v_folk_age)), (h0_folk_out, .inl (cy 2, 6, .inl v_folk_out))] [(h0, .inr (8, [oh0_0, oh0_1, oh0_2, .ref h0_den, oh0_4, oh0_5, oh0_6, .ref h0_folk, oh0_8, oh0_9, oh0_10, oh0_11, oh0_12, oh0_13])), (h0_den, .inr (0, [oh0_den_0, oh0_den_1, oh0_den_2, .int v_den_persons, oh0_den_4, oh0_den_5, oh0_den_6, oh0_den_7, oh0_den_8, oh0_den_9, oh0_den_10, oh0_den_11, oh0_den_12])), (h0_folk, .inr (2, [oh0_folk_0, .int v_folk_date, oh0_folk_2, .ref h0_folk_age, oh0_folk_4, .ref h0_folk_out])), (h0_folk_age, .inl (cy 2, 6, .inl v_folk_age)), (h0_folk_out, .inl (cy 2, 6, .inl v_folk_out))] r := by
  unfold f8_meeting at hM
  refine ct_oi (cc := cX8_meeting) (maxL := 5) (ty := .int) (by decide +kernel) rfl (Nat.le_of_ble_eq_true rfl) (lv0 := [(0, .ref h0), (1, .int p1), (2, .int p2), (3, .int p3)]) rfl ?_
  intro p e s m args below meth c A Q ls hx hb hts hown hml hK hP hD hS hA hret hl
  have hown : s.vm.findClass RX8 = some m.cls := hown
  have k23 := hts (.fieldLink RX8 23 "CaveYears" "den" "LCaveYears$Cave;") (List.mem_of_getElem? (i := 1) (by decide +kernel))
  have iX8 := (fun w h => (List.mem_cons_of_mem _ (List.mem_append_left _ (List.mem_append_left _ (List.mem_append_right _ h)))) : ∀ w ∈ wsX80, w ∈ wsX8_meeting)
  have k140 := hts (.constant RX8 140 (-1000000001)) (List.mem_of_getElem? (i := 2) (by decide +kernel))
  have k47 := hts (.fieldLink RX8 47 "CaveYears" "folk" "LCaveYears$Folk;") (List.mem_of_getElem? (i := 3) (by decide +kernel))
  have k85 := hts (.constant RX8 85 (-1000000002)) (List.mem_of_getElem? (i := 4) (by decide +kernel))
  refine lv_aload_n hx hb dX8_meeting_0 rfl (lv_at hl 0 rfl) ?_
  refine va_get (D := D) (ci := 8) (v := .ref h0_den) (C := RX8) (T := TX8) (N := 14) hx hb hts iX8 hown hK hP 0 rfl rfl 3 (by decide) k23 (fun _ h9 => h9) rfl dX8_meeting_1 ?_
  refine lv_iload_n hx hb dX8_meeting_4 rfl (lv_at hl 1 rfl) ?_
  obtain ⟨r5, hc5, hM⟩ := ob1_some hM
  refine cl_vi (As := [.int p1]) (rest := []) (ci := 0) (q0 := 1) (wr := [(h0, .inr (8, [oh0_0, oh0_1, oh0_2, .ref h0_den, oh0_4, oh0_5, oh0_6, .ref h0_folk, oh0_8, oh0_9, oh0_10, oh0_11, oh0_12, oh0_13])), (h0_folk, .inr (2, [oh0_folk_0, .int v_folk_date, oh0_folk_2, .ref h0_folk_age, oh0_folk_4, .ref h0_folk_out])), (h0_folk_age, .inl (cy 2, 6, .inl v_folk_age)), (h0_folk_out, .inl (cy 2, 6, .inl v_folk_out))]) (ws2 := [(h0, .inr (8, [oh0_0, oh0_1, oh0_2, .ref h0_den, oh0_4, oh0_5, oh0_6, .ref h0_folk, oh0_8, oh0_9, oh0_10, oh0_11, oh0_12, oh0_13])), (h0_den, .inr (0, [oh0_den_0, oh0_den_1, oh0_den_2, .int v_den_persons, oh0_den_4, oh0_den_5, oh0_den_6, oh0_den_7, oh0_den_8, oh0_den_9, oh0_den_10, oh0_den_11, oh0_den_12])), (h0_folk, .inr (2, [oh0_folk_0, .int v_folk_date, oh0_folk_2, .ref h0_folk_age, oh0_folk_4, .ref h0_folk_out])), (h0_folk_age, .inl (cy 2, 6, .inl v_folk_age)), (h0_folk_out, .inl (cy 2, 6, .inl v_folk_out))]) (isC := [1]) (isR := [0, 2, 3, 4]) (pm := [0, 4, 1, 2, 3]) hx hb hml hown hts (c0_hasPerson l D cy N h0_den oh0_den_0 oh0_den_1 oh0_den_2 oh0_den_4 oh0_den_5 oh0_den_6 oh0_den_7 oh0_den_8 oh0_den_9 oh0_den_10 oh0_den_11 oh0_den_12 p1 v_den_persons r5 hc5) (cwV 1 hts gX8_meeting_X0_hasPerson rfl rfl rfl (by decide +kernel) ⟨Nat.le_of_ble_eq_true rfl, Nat.le_of_ble_eq_true rfl⟩) hK hP hD hS hA rfl rfl rfl rfl rfl (by decide) rfl rfl rfl hl.1 (Nat.le_of_ble_eq_true rfl) dX8_meeting_5 ⟨Nat.zero_le _, Nat.zero_le _⟩ rfl rfl (fun H locs hP hD hS => ?_)
  refine lv_if_eq (tgt := 27) hx hb dX8_meeting_8 (by decide) (fun c8 => ?_) (fun c8 => ?_)
  · have hM := g_pos c8 hM
    refine lv_ldc (v := -1000000001) hx hb hown k140 dX8_meeting_27 ?_
    obtain rfl := si1 hM
    exact hret _ _ _ _ _ dX8_meeting_29 rfl rfl hP hD hS
  · have hM := g_neg c8 hM
    refine lv_aload_n hx hb dX8_meeting_11 rfl (lv_at hl 0 rfl) ?_
    refine va_get (D := D) (ci := 8) (v := .ref h0_den) (C := RX8) (T := TX8) (N := 14) hx hb hts iX8 hown hK hP 0 rfl rfl 3 (by decide) k23 (fun _ h9 => h9) rfl dX8_meeting_12 ?_
    refine lv_iload_n hx hb dX8_meeting_15 rfl (lv_at hl 2 rfl) ?_
    obtain ⟨r16, hc16, hM⟩ := ob1_some hM
    refine cl_vi (As := [.int p2]) (rest := []) (ci := 0) (q0 := 1) (wr := [(h0, .inr (8, [oh0_0, oh0_1, oh0_2, .ref h0_den, oh0_4, oh0_5, oh0_6, .ref h0_folk, oh0_8, oh0_9, oh0_10, oh0_11, oh0_12, oh0_13])), (h0_folk, .inr (2, [oh0_folk_0, .int v_folk_date, oh0_folk_2, .ref h0_folk_age, oh0_folk_4, .ref h0_folk_out])), (h0_folk_age, .inl (cy 2, 6, .inl v_folk_age)), (h0_folk_out, .inl (cy 2, 6, .inl v_folk_out))]) (ws2 := [(h0, .inr (8, [oh0_0, oh0_1, oh0_2, .ref h0_den, oh0_4, oh0_5, oh0_6, .ref h0_folk, oh0_8, oh0_9, oh0_10, oh0_11, oh0_12, oh0_13])), (h0_den, .inr (0, [oh0_den_0, oh0_den_1, oh0_den_2, .int v_den_persons, oh0_den_4, oh0_den_5, oh0_den_6, oh0_den_7, oh0_den_8, oh0_den_9, oh0_den_10, oh0_den_11, oh0_den_12])), (h0_folk, .inr (2, [oh0_folk_0, .int v_folk_date, oh0_folk_2, .ref h0_folk_age, oh0_folk_4, .ref h0_folk_out])), (h0_folk_age, .inl (cy 2, 6, .inl v_folk_age)), (h0_folk_out, .inl (cy 2, 6, .inl v_folk_out))]) (isC := [1]) (isR := [0, 2, 3, 4]) (pm := [0, 4, 1, 2, 3]) hx hb hml hown hts (c0_hasPerson l D cy N h0_den oh0_den_0 oh0_den_1 oh0_den_2 oh0_den_4 oh0_den_5 oh0_den_6 oh0_den_7 oh0_den_8 oh0_den_9 oh0_den_10 oh0_den_11 oh0_den_12 p2 v_den_persons r16 hc16) (cwV 1 hts gX8_meeting_X0_hasPerson rfl rfl rfl (by decide +kernel) ⟨Nat.le_of_ble_eq_true rfl, Nat.le_of_ble_eq_true rfl⟩) hK hP hD hS hA rfl rfl rfl rfl rfl (by decide) rfl rfl rfl hl.1 (Nat.le_of_ble_eq_true rfl) dX8_meeting_16 ⟨Nat.zero_le _, Nat.zero_le _⟩ rfl rfl (fun H locs hP hD hS => ?_)
    refine lv_if_eq (tgt := 27) hx hb dX8_meeting_19 (by decide) (fun c19 => ?_) (fun c19 => ?_)
    · have hM := g_pos c19 hM
      refine lv_ldc (v := -1000000001) hx hb hown k140 dX8_meeting_27 ?_
      obtain rfl := si1 hM
      exact hret _ _ _ _ _ dX8_meeting_29 rfl rfl hP hD hS
    · have hM := g_neg c19 hM
      refine lv_iload_n hx hb dX8_meeting_22 rfl (lv_at hl 1 rfl) ?_
      refine lv_iload_n hx hb dX8_meeting_23 rfl (lv_at hl 2 rfl) ?_
      refine lv_icmp_ne (tgt := 30) hx hb dX8_meeting_24 (by decide) (fun c24 => ?_) (fun c24 => ?_)
      · have hM := g_neg c24 hM
        refine lv_aload_n hx hb dX8_meeting_30 rfl (lv_at hl 0 rfl) ?_
        refine va_get (D := D) (ci := 8) (v := .ref h0_folk) (C := RX8) (T := TX8) (N := 14) hx hb hts iX8 hown hK hP 0 rfl rfl 7 (by decide) k47 (fun _ h9 => h9) rfl dX8_meeting_31 ?_
        refine lv_iload_n hx hb dX8_meeting_34 rfl (lv_at hl 1 rfl) ?_
        refine lv_iload_n hx hb dX8_meeting_35 rfl (lv_at hl 2 rfl) ?_
        obtain ⟨r36, hc36, hM⟩ := ob1_some hM
        refine cl_vi (As := [.int p1, .int p2]) (rest := []) (ci := 2) (q0 := 2) (wr := [(h0, .inr (8, [oh0_0, oh0_1, oh0_2, .ref h0_den, oh0_4, oh0_5, oh0_6, .ref h0_folk, oh0_8, oh0_9, oh0_10, oh0_11, oh0_12, oh0_13])), (h0_den, .inr (0, [oh0_den_0, oh0_den_1, oh0_den_2, .int v_den_persons, oh0_den_4, oh0_den_5, oh0_den_6, oh0_den_7, oh0_den_8, oh0_den_9, oh0_den_10, oh0_den_11, oh0_den_12])), (h0_folk_age, .inl (cy 2, 6, .inl v_folk_age))]) (ws2 := [(h0, .inr (8, [oh0_0, oh0_1, oh0_2, .ref h0_den, oh0_4, oh0_5, oh0_6, .ref h0_folk, oh0_8, oh0_9, oh0_10, oh0_11, oh0_12, oh0_13])), (h0_den, .inr (0, [oh0_den_0, oh0_den_1, oh0_den_2, .int v_den_persons, oh0_den_4, oh0_den_5, oh0_den_6, oh0_den_7, oh0_den_8, oh0_den_9, oh0_den_10, oh0_den_11, oh0_den_12])), (h0_folk, .inr (2, [oh0_folk_0, .int v_folk_date, oh0_folk_2, .ref h0_folk_age, oh0_folk_4, .ref h0_folk_out])), (h0_folk_age, .inl (cy 2, 6, .inl v_folk_age)), (h0_folk_out, .inl (cy 2, 6, .inl v_folk_out))]) (isC := [2, 4]) (isR := [0, 1, 3]) (pm := [0, 1, 3, 2, 4]) hx hb hml hown hts (c2_meetingDate l D cy N h0_folk h0_folk_out oh0_folk_0 oh0_folk_2 (.ref h0_folk_age) oh0_folk_4 p1 p2 v_folk_date v_folk_out r36 hc36) (cwV 2 hts gX8_meeting_X2_meetingDate rfl rfl rfl (by decide +kernel) ⟨Nat.le_of_ble_eq_true rfl, Nat.le_of_ble_eq_true rfl⟩) hK hP hD hS hA rfl rfl rfl rfl rfl (by decide) rfl rfl rfl hl.1 (Nat.le_of_ble_eq_true rfl) dX8_meeting_36 ⟨Nat.zero_le _, Nat.zero_le _⟩ rfl rfl (fun H locs hP hD hS => ?_)
        refine lv_istore (lv' := [(4, .int r36), (0, .ref h0), (1, .int p1), (2, .int p2), (3, .int p3)]) hx hb dX8_meeting_39 hl (by decide) rfl (fun ls hl => ?_)
        refine lv_iload_n hx hb dX8_meeting_41 rfl (lv_at hl 4 rfl) ?_
        rcases Classical.em (p3 = (0 : Int32)) with c42_0 | c42_0
        · have hM := g_pos c42_0 hM
          refine lv_tableIn (off := 26) (tgt := 68) hx hb dX8_meeting_42 (by rw [c42_0]; decide) (by rw [c42_0]; decide) (by rw [c42_0]; decide) (by decide) ?_
          refine lv_iload hx hb dX8_meeting_68 (lv_at hl 0 rfl) ?_
          obtain rfl := si1 hM
          exact hret _ _ _ _ _ dX8_meeting_70 rfl rfl hP hD hS
        · have hM := g_neg c42_0 hM
          rcases Classical.em (p3 = (1 : Int32)) with c42_1 | c42_1
          · have hM := g_pos c42_1 hM
            refine lv_tableIn (off := 29) (tgt := 71) hx hb dX8_meeting_42 (by rw [c42_1]; decide) (by rw [c42_1]; decide) (by rw [c42_1]; decide) (by decide) ?_
            refine lv_aload_n hx hb dX8_meeting_71 rfl (lv_at hl 1 rfl) ?_
            refine va_get (D := D) (ci := 8) (v := .ref h0_folk) (C := RX8) (T := TX8) (N := 14) hx hb hts iX8 hown hK hP 0 rfl rfl 7 (by decide) k47 (fun _ h9 => h9) rfl dX8_meeting_72 ?_
            refine lv_iload_n hx hb dX8_meeting_75 rfl (lv_at hl 2 rfl) ?_
            refine lv_iload hx hb dX8_meeting_76 (lv_at hl 0 rfl) ?_
            obtain ⟨r78, hc78, hM⟩ := ob1_some hM
            refine cl_vi (As := [.int p1, .int r36]) (rest := []) (ci := 2) (q0 := 2) (wr := [(h0, .inr (8, [oh0_0, oh0_1, oh0_2, .ref h0_den, oh0_4, oh0_5, oh0_6, .ref h0_folk, oh0_8, oh0_9, oh0_10, oh0_11, oh0_12, oh0_13])), (h0_den, .inr (0, [oh0_den_0, oh0_den_1, oh0_den_2, .int v_den_persons, oh0_den_4, oh0_den_5, oh0_den_6, oh0_den_7, oh0_den_8, oh0_den_9, oh0_den_10, oh0_den_11, oh0_den_12]))]) (ws2 := [(h0, .inr (8, [oh0_0, oh0_1, oh0_2, .ref h0_den, oh0_4, oh0_5, oh0_6, .ref h0_folk, oh0_8, oh0_9, oh0_10, oh0_11, oh0_12, oh0_13])), (h0_den, .inr (0, [oh0_den_0, oh0_den_1, oh0_den_2, .int v_den_persons, oh0_den_4, oh0_den_5, oh0_den_6, oh0_den_7, oh0_den_8, oh0_den_9, oh0_den_10, oh0_den_11, oh0_den_12])), (h0_folk, .inr (2, [oh0_folk_0, .int v_folk_date, oh0_folk_2, .ref h0_folk_age, oh0_folk_4, .ref h0_folk_out])), (h0_folk_age, .inl (cy 2, 6, .inl v_folk_age)), (h0_folk_out, .inl (cy 2, 6, .inl v_folk_out))]) (isC := [2, 3, 4]) (isR := [0, 1]) (pm := [0, 1, 2, 3, 4]) hx hb hml hown hts (c2_ageAt l D cy N h0_folk h0_folk_age h0_folk_out oh0_folk_0 oh0_folk_2 oh0_folk_4 p1 r36 v_folk_date v_folk_age v_folk_out r78 hc78) (cwV 2 hts gX8_meeting_X2_ageAt rfl rfl rfl (by decide +kernel) ⟨Nat.le_of_ble_eq_true rfl, Nat.le_of_ble_eq_true rfl⟩) hK hP hD hS hA rfl rfl rfl rfl rfl (by decide) rfl rfl rfl hl.1 (Nat.le_of_ble_eq_true rfl) dX8_meeting_78 ⟨Nat.zero_le _, Nat.zero_le _⟩ rfl rfl (fun H locs hP hD hS => ?_)
            obtain rfl := si1 hM
            exact hret _ _ _ _ _ dX8_meeting_81 rfl rfl hP hD hS
          · have hM := g_neg c42_1 hM
            rcases Classical.em (p3 = (2 : Int32)) with c42_2 | c42_2
            · have hM := g_pos c42_2 hM
              refine lv_tableIn (off := 40) (tgt := 82) hx hb dX8_meeting_42 (by rw [c42_2]; decide) (by rw [c42_2]; decide) (by rw [c42_2]; decide) (by decide) ?_
              refine lv_aload_n hx hb dX8_meeting_82 rfl (lv_at hl 1 rfl) ?_
              refine va_get (D := D) (ci := 8) (v := .ref h0_folk) (C := RX8) (T := TX8) (N := 14) hx hb hts iX8 hown hK hP 0 rfl rfl 7 (by decide) k47 (fun _ h9 => h9) rfl dX8_meeting_83 ?_
              refine lv_iload_n hx hb dX8_meeting_86 rfl (lv_at hl 3 rfl) ?_
              refine lv_iload hx hb dX8_meeting_87 (lv_at hl 0 rfl) ?_
              obtain ⟨r89, hc89, hM⟩ := ob1_some hM
              refine cl_vi (As := [.int p2, .int r36]) (rest := []) (ci := 2) (q0 := 2) (wr := [(h0, .inr (8, [oh0_0, oh0_1, oh0_2, .ref h0_den, oh0_4, oh0_5, oh0_6, .ref h0_folk, oh0_8, oh0_9, oh0_10, oh0_11, oh0_12, oh0_13])), (h0_den, .inr (0, [oh0_den_0, oh0_den_1, oh0_den_2, .int v_den_persons, oh0_den_4, oh0_den_5, oh0_den_6, oh0_den_7, oh0_den_8, oh0_den_9, oh0_den_10, oh0_den_11, oh0_den_12]))]) (ws2 := [(h0, .inr (8, [oh0_0, oh0_1, oh0_2, .ref h0_den, oh0_4, oh0_5, oh0_6, .ref h0_folk, oh0_8, oh0_9, oh0_10, oh0_11, oh0_12, oh0_13])), (h0_den, .inr (0, [oh0_den_0, oh0_den_1, oh0_den_2, .int v_den_persons, oh0_den_4, oh0_den_5, oh0_den_6, oh0_den_7, oh0_den_8, oh0_den_9, oh0_den_10, oh0_den_11, oh0_den_12])), (h0_folk, .inr (2, [oh0_folk_0, .int v_folk_date, oh0_folk_2, .ref h0_folk_age, oh0_folk_4, .ref h0_folk_out])), (h0_folk_age, .inl (cy 2, 6, .inl v_folk_age)), (h0_folk_out, .inl (cy 2, 6, .inl v_folk_out))]) (isC := [2, 3, 4]) (isR := [0, 1]) (pm := [0, 1, 2, 3, 4]) hx hb hml hown hts (c2_ageAt l D cy N h0_folk h0_folk_age h0_folk_out oh0_folk_0 oh0_folk_2 oh0_folk_4 p2 r36 v_folk_date v_folk_age v_folk_out r89 hc89) (cwV 2 hts gX8_meeting_X2_ageAt rfl rfl rfl (by decide +kernel) ⟨Nat.le_of_ble_eq_true rfl, Nat.le_of_ble_eq_true rfl⟩) hK hP hD hS hA rfl rfl rfl rfl rfl (by decide) rfl rfl rfl hl.1 (Nat.le_of_ble_eq_true rfl) dX8_meeting_89 ⟨Nat.zero_le _, Nat.zero_le _⟩ rfl rfl (fun H locs hP hD hS => ?_)
              obtain rfl := si1 hM
              exact hret _ _ _ _ _ dX8_meeting_92 rfl rfl hP hD hS
            · have hM := g_neg c42_2 hM
              have n42_0 : p3.toInt ≠ 0 := fun q => c42_0 (Int32.toInt_inj.mp (q.trans (by decide)))
              have n42_1 : p3.toInt ≠ 1 := fun q => c42_1 (Int32.toInt_inj.mp (q.trans (by decide)))
              have n42_2 : p3.toInt ≠ 2 := fun q => c42_2 (Int32.toInt_inj.mp (q.trans (by decide)))
              refine lv_tableOut (tgt := 93) hx hb dX8_meeting_42 (by omega) (by decide) ?_
              refine lv_ldc (v := -1000000002) hx hb hown k85 dX8_meeting_93 ?_
              obtain rfl := si1 hM
              exact hret _ _ _ _ _ dX8_meeting_95 rfl rfl hP hD hS
      · have hM := g_pos c24 hM
        refine lv_ldc (v := -1000000001) hx hb hown k140 dX8_meeting_27 ?_
        obtain rfl := si1 hM
        exact hret _ _ _ _ _ dX8_meeting_29 rfl rfl hP hD hS

-- ===== X8_sum sum (II)I =====
abbrev r8_sum : Room := { frames := 3, cells := 0, slots := 0, locals := 74 }
def f8_sum (N : Nat) (p1 : Int32) (p2 : Int32) (v_den_persons : Int32) (v_den_interest : Int32) (v_folk_date : Int32) (v_folk_riches : Nat → Int32) : Option Int32 :=
  ob1 (f0_hasPerson N p1 v_den_persons) fun r5 => if r5 = (0 : Int32) then (some (-1000000001 : Int32)) else (if p2 < v_folk_date then (some (-1000000002 : Int32)) else (if p2 ≤ (9999999 : Int32) then (ob1 (f2_richesAt N p1 p2 v_den_interest v_folk_date v_folk_riches) fun r47 => some r47) else (some (-1000000002 : Int32))))
set_option maxHeartbeats 4000000 in
set_option maxRecDepth 100000 in
theorem c8_sum (l : Launch) (D : va_G) (cy : Nat → ClassId) (N : Nat) (h0 h0_den h0_folk h0_folk_riches : Nat) (oh0_0 oh0_1 oh0_2 oh0_4 oh0_5 oh0_6 oh0_8 oh0_9 oh0_10 oh0_11 oh0_12 oh0_13 oh0_den_0 oh0_den_1 oh0_den_2 oh0_den_5 oh0_den_6 oh0_den_7 oh0_den_8 oh0_den_9 oh0_den_10 oh0_den_11 oh0_den_12 oh0_folk_0 oh0_folk_2 oh0_folk_3 oh0_folk_5 : Value) (p1 : Int32) (p2 : Int32) (v_den_persons : Int32) (v_den_interest : Int32) (v_folk_date : Int32) (v_folk_riches : Nat → Int32) (r : Int32) (hM : f8_sum N p1 p2 v_den_persons v_den_interest v_folk_date v_folk_riches = some r) (sz : Nat) : CTi l yX8_sum wsX8_sum r8_sum [.ref h0, .int p1, .int p2] D cy sz [(h0, .inr (8, [oh0_0, oh0_1, oh0_2, .ref h0_den, oh0_4, oh0_5, oh0_6, .ref h0_folk, oh0_8, oh0_9, oh0_10, oh0_11, oh0_12, oh0_13])), (h0_den, .inr (0, [oh0_den_0, oh0_den_1, oh0_den_2, .int v_den_persons, .int v_den_interest, oh0_den_5, oh0_den_6, oh0_den_7, oh0_den_8, oh0_den_9, oh0_den_10, oh0_den_11, oh0_den_12])), (h0_folk, .inr (2, [oh0_folk_0, .int v_folk_date, oh0_folk_2, oh0_folk_3, .ref h0_folk_riches, oh0_folk_5])), (h0_folk_riches, .inl (cy 2, 6, .inl v_folk_riches))] [(h0, .inr (8, [oh0_0, oh0_1, oh0_2, .ref h0_den, oh0_4, oh0_5, oh0_6, .ref h0_folk, oh0_8, oh0_9, oh0_10, oh0_11, oh0_12, oh0_13])), (h0_den, .inr (0, [oh0_den_0, oh0_den_1, oh0_den_2, .int v_den_persons, .int v_den_interest, oh0_den_5, oh0_den_6, oh0_den_7, oh0_den_8, oh0_den_9, oh0_den_10, oh0_den_11, oh0_den_12])), (h0_folk, .inr (2, [oh0_folk_0, .int v_folk_date, oh0_folk_2, oh0_folk_3, .ref h0_folk_riches, oh0_folk_5])), (h0_folk_riches, .inl (cy 2, 6, .inl v_folk_riches))] r := by
  unfold f8_sum at hM
  refine ct_oi (cc := cX8_sum) (maxL := 3) (ty := .int) (by decide +kernel) rfl (Nat.le_of_ble_eq_true rfl) (lv0 := [(0, .ref h0), (1, .int p1), (2, .int p2)]) rfl ?_
  intro p e s m args below meth c A Q ls hx hb hts hown hml hK hP hD hS hA hret hl
  have hown : s.vm.findClass RX8 = some m.cls := hown
  have k23 := hts (.fieldLink RX8 23 "CaveYears" "den" "LCaveYears$Cave;") (List.mem_of_getElem? (i := 1) (by decide +kernel))
  have iX8 := (fun w h => (List.mem_cons_of_mem _ (List.mem_append_left _ (List.mem_append_left _ (List.mem_append_right _ h)))) : ∀ w ∈ wsX80, w ∈ wsX8_sum)
  have k47 := hts (.fieldLink RX8 47 "CaveYears" "folk" "LCaveYears$Folk;") (List.mem_of_getElem? (i := 3) (by decide +kernel))
  have k125 := hts (.fieldLink RX8 125 "CaveYears$Folk" "date" "I") (List.mem_of_getElem? (i := 4) (by decide +kernel))
  have iX2 := (fun w h => (List.mem_cons_of_mem _ (List.mem_append_left _ (List.mem_append_right _ h))) : ∀ w ∈ wsX20, w ∈ wsX8_sum)
  have k85 := hts (.constant RX8 85 (-1000000002)) (List.mem_of_getElem? (i := 6) (by decide +kernel))
  have k177 := hts (.constant RX8 177 (9999999)) (List.mem_of_getElem? (i := 5) (by decide +kernel))
  have k119 := hts (.fieldLink RX8 119 "CaveYears$Cave" "interest" "I") (List.mem_of_getElem? (i := 7) (by decide +kernel))
  have iX0 := (fun w h => (List.mem_cons_of_mem _ (List.mem_append_right _ h)) : ∀ w ∈ wsX00, w ∈ wsX8_sum)
  have k140 := hts (.constant RX8 140 (-1000000001)) (List.mem_of_getElem? (i := 2) (by decide +kernel))
  refine lv_aload_n hx hb dX8_sum_0 rfl (lv_at hl 0 rfl) ?_
  refine va_get (D := D) (ci := 8) (v := .ref h0_den) (C := RX8) (T := TX8) (N := 14) hx hb hts iX8 hown hK hP 0 rfl rfl 3 (by decide) k23 (fun _ h9 => h9) rfl dX8_sum_1 ?_
  refine lv_iload_n hx hb dX8_sum_4 rfl (lv_at hl 1 rfl) ?_
  obtain ⟨r5, hc5, hM⟩ := ob1_some hM
  refine cl_vi (As := [.int p1]) (rest := []) (ci := 0) (q0 := 1) (wr := [(h0, .inr (8, [oh0_0, oh0_1, oh0_2, .ref h0_den, oh0_4, oh0_5, oh0_6, .ref h0_folk, oh0_8, oh0_9, oh0_10, oh0_11, oh0_12, oh0_13])), (h0_folk, .inr (2, [oh0_folk_0, .int v_folk_date, oh0_folk_2, oh0_folk_3, .ref h0_folk_riches, oh0_folk_5])), (h0_folk_riches, .inl (cy 2, 6, .inl v_folk_riches))]) (ws2 := [(h0, .inr (8, [oh0_0, oh0_1, oh0_2, .ref h0_den, oh0_4, oh0_5, oh0_6, .ref h0_folk, oh0_8, oh0_9, oh0_10, oh0_11, oh0_12, oh0_13])), (h0_den, .inr (0, [oh0_den_0, oh0_den_1, oh0_den_2, .int v_den_persons, .int v_den_interest, oh0_den_5, oh0_den_6, oh0_den_7, oh0_den_8, oh0_den_9, oh0_den_10, oh0_den_11, oh0_den_12])), (h0_folk, .inr (2, [oh0_folk_0, .int v_folk_date, oh0_folk_2, oh0_folk_3, .ref h0_folk_riches, oh0_folk_5])), (h0_folk_riches, .inl (cy 2, 6, .inl v_folk_riches))]) (isC := [1]) (isR := [0, 2, 3]) (pm := [0, 3, 1, 2]) hx hb hml hown hts (c0_hasPerson l D cy N h0_den oh0_den_0 oh0_den_1 oh0_den_2 (.int v_den_interest) oh0_den_5 oh0_den_6 oh0_den_7 oh0_den_8 oh0_den_9 oh0_den_10 oh0_den_11 oh0_den_12 p1 v_den_persons r5 hc5) (cwV 1 hts gX8_sum_X0_hasPerson rfl rfl rfl (by decide +kernel) ⟨Nat.le_of_ble_eq_true rfl, Nat.le_of_ble_eq_true rfl⟩) hK hP hD hS hA rfl rfl rfl rfl rfl (by decide) rfl rfl rfl hl.1 (Nat.le_of_ble_eq_true rfl) dX8_sum_5 ⟨Nat.zero_le _, Nat.zero_le _⟩ rfl rfl (fun H locs hP hD hS => ?_)
  refine lv_if_ne (tgt := 14) hx hb dX8_sum_8 (by decide) (fun c8 => ?_) (fun c8 => ?_)
  · have hM := g_neg c8 hM
    refine lv_iload_n hx hb dX8_sum_14 rfl (lv_at hl 2 rfl) ?_
    refine lv_aload_n hx hb dX8_sum_15 rfl (lv_at hl 0 rfl) ?_
    refine va_get (D := D) (ci := 8) (v := .ref h0_folk) (C := RX8) (T := TX8) (N := 14) hx hb hts iX8 hown hK hP 0 rfl rfl 7 (by decide) k47 (fun _ h9 => h9) rfl dX8_sum_16 ?_
    refine va_get (D := D) (ci := 2) (v := .int v_folk_date) (C := RX2) (T := TX2) (N := 6) hx hb hts iX2 hown hK hP 2 rfl rfl 1 (by decide) k125 (fun _ h9 => h9) rfl dX8_sum_19 ?_
    refine lv_icmp_lt (tgt := 31) hx hb dX8_sum_22 (by decide) (fun c22 => ?_) (fun c22 => ?_)
    · have hM := g_pos c22 hM
      refine lv_ldc (v := -1000000002) hx hb hown k85 dX8_sum_31 ?_
      obtain rfl := si1 hM
      exact hret _ _ _ _ _ dX8_sum_33 rfl rfl hP hD hS
    · have hM := g_neg c22 hM
      refine lv_iload_n hx hb dX8_sum_25 rfl (lv_at hl 2 rfl) ?_
      refine lv_ldc (v := 9999999) hx hb hown k177 dX8_sum_26 ?_
      refine lv_icmp_le (tgt := 34) hx hb dX8_sum_28 (by decide) (fun c28 => ?_) (fun c28 => ?_)
      · have hM := g_pos c28 hM
        refine lv_aload_n hx hb dX8_sum_34 rfl (lv_at hl 0 rfl) ?_
        refine va_get (D := D) (ci := 8) (v := .ref h0_folk) (C := RX8) (T := TX8) (N := 14) hx hb hts iX8 hown hK hP 0 rfl rfl 7 (by decide) k47 (fun _ h9 => h9) rfl dX8_sum_35 ?_
        refine lv_iload_n hx hb dX8_sum_38 rfl (lv_at hl 1 rfl) ?_
        refine lv_iload_n hx hb dX8_sum_39 rfl (lv_at hl 2 rfl) ?_
        refine lv_aload_n hx hb dX8_sum_40 rfl (lv_at hl 0 rfl) ?_
        refine va_get (D := D) (ci := 8) (v := .ref h0_den) (C := RX8) (T := TX8) (N := 14) hx hb hts iX8 hown hK hP 0 rfl rfl 3 (by decide) k23 (fun _ h9 => h9) rfl dX8_sum_41 ?_
        refine va_get (D := D) (ci := 0) (v := .int v_den_interest) (C := RX0) (T := TX0) (N := 13) hx hb hts iX0 hown hK hP 1 rfl rfl 4 (by decide) k119 (fun _ h9 => h9) rfl dX8_sum_44 ?_
        obtain ⟨r47, hc47, hM⟩ := ob1_some hM
        refine cl_vi (As := [.int p1, .int p2, .int v_den_interest]) (rest := []) (ci := 2) (q0 := 2) (wr := [(h0, .inr (8, [oh0_0, oh0_1, oh0_2, .ref h0_den, oh0_4, oh0_5, oh0_6, .ref h0_folk, oh0_8, oh0_9, oh0_10, oh0_11, oh0_12, oh0_13])), (h0_den, .inr (0, [oh0_den_0, oh0_den_1, oh0_den_2, .int v_den_persons, .int v_den_interest, oh0_den_5, oh0_den_6, oh0_den_7, oh0_den_8, oh0_den_9, oh0_den_10, oh0_den_11, oh0_den_12]))]) (ws2 := [(h0, .inr (8, [oh0_0, oh0_1, oh0_2, .ref h0_den, oh0_4, oh0_5, oh0_6, .ref h0_folk, oh0_8, oh0_9, oh0_10, oh0_11, oh0_12, oh0_13])), (h0_den, .inr (0, [oh0_den_0, oh0_den_1, oh0_den_2, .int v_den_persons, .int v_den_interest, oh0_den_5, oh0_den_6, oh0_den_7, oh0_den_8, oh0_den_9, oh0_den_10, oh0_den_11, oh0_den_12])), (h0_folk, .inr (2, [oh0_folk_0, .int v_folk_date, oh0_folk_2, oh0_folk_3, .ref h0_folk_riches, oh0_folk_5])), (h0_folk_riches, .inl (cy 2, 6, .inl v_folk_riches))]) (isC := [2, 3]) (isR := [0, 1]) (pm := [0, 1, 2, 3]) hx hb hml hown hts (c2_richesAt l D cy N h0_folk h0_folk_riches oh0_folk_0 oh0_folk_2 oh0_folk_3 oh0_folk_5 p1 p2 v_den_interest v_folk_date v_folk_riches r47 hc47) (cwV 3 hts gX8_sum_X2_richesAt rfl rfl rfl (by decide +kernel) ⟨Nat.le_of_ble_eq_true rfl, Nat.le_of_ble_eq_true rfl⟩) hK hP hD hS hA rfl rfl rfl rfl rfl (by decide) rfl rfl rfl hl.1 (Nat.le_of_ble_eq_true rfl) dX8_sum_47 ⟨Nat.zero_le _, Nat.zero_le _⟩ rfl rfl (fun H locs hP hD hS => ?_)
        obtain rfl := si1 hM
        exact hret _ _ _ _ _ dX8_sum_50 rfl rfl hP hD hS
      · have hM := g_neg c28 hM
        refine lv_ldc (v := -1000000002) hx hb hown k85 dX8_sum_31 ?_
        obtain rfl := si1 hM
        exact hret _ _ _ _ _ dX8_sum_33 rfl rfl hP hD hS
  · have hM := g_pos c8 hM
    refine lv_ldc (v := -1000000001) hx hb hown k140 dX8_sum_11 ?_
    obtain rfl := si1 hM
    exact hret _ _ _ _ _ dX8_sum_13 rfl rfl hP hD hS

-- ===== X8_tryOut tryOut (II)I =====
abbrev r8_tryOut : Room := { frames := 1, cells := 0, slots := 0, locals := 22 }
def f8_tryOut (N : Nat) (p1 : Int32) (p2 : Int32) (v_trials_count : Int32) (v_trials_days : Nat → Int32) (v_trials_ticks : Nat → Int32) : Option (Int32 × Int32 × (Nat → Int32) × (Nat → Int32)) :=
  ob1 (f8_isDays N p1) fun r1 => if r1 = (0 : Int32) then (some ((-1000000002 : Int32), v_trials_count, v_trials_days, v_trials_ticks)) else (if p2 < (0 : Int32) then (some ((-1000000002 : Int32), v_trials_count, v_trials_days, v_trials_ticks)) else (if p2 ≤ (99999 : Int32) then (ob4 (f7_add N p1 p2 v_trials_count v_trials_days v_trials_ticks) fun r26 v_trials_count_26 v_trials_days_26 v_trials_ticks_26 => some (r26, v_trials_count_26, v_trials_days_26, v_trials_ticks_26)) else (some ((-1000000002 : Int32), v_trials_count, v_trials_days, v_trials_ticks))))
set_option maxHeartbeats 4000000 in
set_option maxRecDepth 100000 in
theorem c8_tryOut (l : Launch) (D : va_G) (cy : Nat → ClassId) (N : Nat) (h0 h0_trials h0_trials_days h0_trials_ticks : Nat) (oh0_0 oh0_1 oh0_2 oh0_3 oh0_4 oh0_5 oh0_6 oh0_7 oh0_8 oh0_9 oh0_10 oh0_11 oh0_13 : Value) (p1 : Int32) (p2 : Int32) (v_trials_count : Int32) (v_trials_days : Nat → Int32) (v_trials_ticks : Nat → Int32) (r : Int32) (nv_trials_count : Int32) (nv_trials_days : Nat → Int32) (nv_trials_ticks : Nat → Int32) (hM : f8_tryOut N p1 p2 v_trials_count v_trials_days v_trials_ticks = some (r, nv_trials_count, nv_trials_days, nv_trials_ticks)) (sz : Nat) : CTi l yX8_tryOut wsX8_tryOut r8_tryOut [.ref h0, .int p1, .int p2] D cy sz [(h0, .inr (8, [oh0_0, oh0_1, oh0_2, oh0_3, oh0_4, oh0_5, oh0_6, oh0_7, oh0_8, oh0_9, oh0_10, oh0_11, .ref h0_trials, oh0_13])), (h0_trials, .inr (7, [.int v_trials_count, .ref h0_trials_days, .ref h0_trials_ticks])), (h0_trials_days, .inl (cy 2, 10, .inl v_trials_days)), (h0_trials_ticks, .inl (cy 2, 10, .inl v_trials_ticks))] [(h0, .inr (8, [oh0_0, oh0_1, oh0_2, oh0_3, oh0_4, oh0_5, oh0_6, oh0_7, oh0_8, oh0_9, oh0_10, oh0_11, .ref h0_trials, oh0_13])), (h0_trials, .inr (7, [.int nv_trials_count, .ref h0_trials_days, .ref h0_trials_ticks])), (h0_trials_days, .inl (cy 2, 10, .inl nv_trials_days)), (h0_trials_ticks, .inl (cy 2, 10, .inl nv_trials_ticks))] r := by
  unfold f8_tryOut at hM
  refine ct_oi (cc := cX8_tryOut) (maxL := 3) (ty := .int) (by decide +kernel) rfl (Nat.le_of_ble_eq_true rfl) (lv0 := [(0, .ref h0), (1, .int p1), (2, .int p2)]) rfl ?_
  intro p e s m args below meth c A Q ls hx hb hts hown hml hK hP hD hS hA hret hl
  have hown : s.vm.findClass RX8 = some m.cls := hown
  have k85 := hts (.constant RX8 85 (-1000000002)) (List.mem_of_getElem? (i := 2) (by decide +kernel))
  have k228 := hts (.constant RX8 228 (99999)) (List.mem_of_getElem? (i := 1) (by decide +kernel))
  have k74 := hts (.fieldLink RX8 74 "CaveYears" "trials" "LCaveYears$Trials;") (List.mem_of_getElem? (i := 3) (by decide +kernel))
  have iX8 := (fun w h => (List.mem_cons_of_mem _ (List.mem_append_left _ (List.mem_append_right _ h))) : ∀ w ∈ wsX80, w ∈ wsX8_tryOut)
  refine lv_iload_n hx hb dX8_tryOut_0 rfl (lv_at hl 1 rfl) ?_
  obtain ⟨r1, hc1, hM⟩ := ob1_some hM
  refine cl_si (As := [.int p1]) (rest := []) (wr := [(h0, .inr (8, [oh0_0, oh0_1, oh0_2, oh0_3, oh0_4, oh0_5, oh0_6, oh0_7, oh0_8, oh0_9, oh0_10, oh0_11, .ref h0_trials, oh0_13])), (h0_trials, .inr (7, [.int v_trials_count, .ref h0_trials_days, .ref h0_trials_ticks])), (h0_trials_days, .inl (cy 2, 10, .inl v_trials_days)), (h0_trials_ticks, .inl (cy 2, 10, .inl v_trials_ticks))]) (ws2 := [(h0, .inr (8, [oh0_0, oh0_1, oh0_2, oh0_3, oh0_4, oh0_5, oh0_6, oh0_7, oh0_8, oh0_9, oh0_10, oh0_11, .ref h0_trials, oh0_13])), (h0_trials, .inr (7, [.int v_trials_count, .ref h0_trials_days, .ref h0_trials_ticks])), (h0_trials_days, .inl (cy 2, 10, .inl v_trials_days)), (h0_trials_ticks, .inl (cy 2, 10, .inl v_trials_ticks))]) (isC := []) (isR := [0, 1, 2, 3]) (pm := [0, 1, 2, 3]) hx hb hml hown hts (c8_isDays l D cy N p1 r1 hc1) (va_cwS 1 hts gX8_tryOut_X8_isDays rfl rfl rfl (by decide +kernel) ⟨Nat.le_of_ble_eq_true rfl, Nat.le_of_ble_eq_true rfl⟩) hK hP hD hS hA rfl rfl rfl (by decide) rfl rfl rfl hl.1 (Nat.le_of_ble_eq_true rfl) dX8_tryOut_1 ⟨Nat.zero_le _, Nat.zero_le _⟩ rfl rfl (fun H locs hP hD hS => ?_)
  refine lv_if_eq (tgt := 17) hx hb dX8_tryOut_4 (by decide) (fun c4 => ?_) (fun c4 => ?_)
  · have hM := g_pos c4 hM
    refine lv_ldc (v := -1000000002) hx hb hown k85 dX8_tryOut_17 ?_
    obtain ⟨rfl, rfl, rfl, rfl⟩ := si4 hM
    exact hret _ _ _ _ _ dX8_tryOut_19 rfl rfl hP hD hS
  · have hM := g_neg c4 hM
    refine lv_iload_n hx hb dX8_tryOut_7 rfl (lv_at hl 2 rfl) ?_
    refine lv_if_lt (tgt := 17) hx hb dX8_tryOut_8 (by decide) (fun c8 => ?_) (fun c8 => ?_)
    · have hM := g_pos c8 hM
      refine lv_ldc (v := -1000000002) hx hb hown k85 dX8_tryOut_17 ?_
      obtain ⟨rfl, rfl, rfl, rfl⟩ := si4 hM
      exact hret _ _ _ _ _ dX8_tryOut_19 rfl rfl hP hD hS
    · have hM := g_neg c8 hM
      refine lv_iload_n hx hb dX8_tryOut_11 rfl (lv_at hl 2 rfl) ?_
      refine lv_ldc (v := 99999) hx hb hown k228 dX8_tryOut_12 ?_
      refine lv_icmp_le (tgt := 20) hx hb dX8_tryOut_14 (by decide) (fun c14 => ?_) (fun c14 => ?_)
      · have hM := g_pos c14 hM
        refine lv_aload_n hx hb dX8_tryOut_20 rfl (lv_at hl 0 rfl) ?_
        refine va_get (D := D) (ci := 8) (v := .ref h0_trials) (C := RX8) (T := TX8) (N := 14) hx hb hts iX8 hown hK hP 0 rfl rfl 12 (by decide) k74 (fun _ h9 => h9) rfl dX8_tryOut_21 ?_
        refine lv_iload_n hx hb dX8_tryOut_24 rfl (lv_at hl 1 rfl) ?_
        refine lv_iload_n hx hb dX8_tryOut_25 rfl (lv_at hl 2 rfl) ?_
        obtain ⟨r26, v_trials_count_26, v_trials_days_26, v_trials_ticks_26, hc26, hM⟩ := ob4_some hM
        refine cl_vi (As := [.int p1, .int p2]) (rest := []) (ci := 7) (q0 := 1) (wr := [(h0, .inr (8, [oh0_0, oh0_1, oh0_2, oh0_3, oh0_4, oh0_5, oh0_6, oh0_7, oh0_8, oh0_9, oh0_10, oh0_11, .ref h0_trials, oh0_13]))]) (ws2 := [(h0, .inr (8, [oh0_0, oh0_1, oh0_2, oh0_3, oh0_4, oh0_5, oh0_6, oh0_7, oh0_8, oh0_9, oh0_10, oh0_11, .ref h0_trials, oh0_13])), (h0_trials, .inr (7, [.int v_trials_count_26, .ref h0_trials_days, .ref h0_trials_ticks])), (h0_trials_days, .inl (cy 2, 10, .inl v_trials_days_26)), (h0_trials_ticks, .inl (cy 2, 10, .inl v_trials_ticks_26))]) (isC := [1, 2, 3]) (isR := [0]) (pm := [0, 1, 2, 3]) hx hb hml hown hts (c7_add l D cy N h0_trials h0_trials_days h0_trials_ticks p1 p2 v_trials_count v_trials_days v_trials_ticks r26 v_trials_count_26 v_trials_days_26 v_trials_ticks_26 hc26) (cwV 2 hts gX8_tryOut_X7_add rfl rfl rfl (by decide +kernel) ⟨Nat.le_of_ble_eq_true rfl, Nat.le_of_ble_eq_true rfl⟩) hK hP hD hS hA rfl rfl rfl rfl rfl (by decide) rfl rfl rfl hl.1 (Nat.le_of_ble_eq_true rfl) dX8_tryOut_26 ⟨Nat.zero_le _, Nat.zero_le _⟩ rfl rfl (fun H locs hP hD hS => ?_)
        obtain ⟨rfl, rfl, rfl, rfl⟩ := si4 hM
        exact hret _ _ _ _ _ dX8_tryOut_29 rfl rfl hP hD hS
      · have hM := g_neg c14 hM
        refine lv_ldc (v := -1000000002) hx hb hown k85 dX8_tryOut_17 ?_
        obtain ⟨rfl, rfl, rfl, rfl⟩ := si4 hM
        exact hret _ _ _ _ _ dX8_tryOut_19 rfl rfl hP hD hS

-- ===== X8_fits fits ()I =====
abbrev r8_fits : Room := { frames := 3, cells := 0, slots := 0, locals := 65 }
def f8_fits (N : Nat) (v_den_parts : Int32) (v_den_rate : Nat → Int32) (v_trials_count : Int32) (v_trials_days : Nat → Int32) (v_trials_ticks : Nat → Int32) : Option Int32 :=
  ob1 (f7_fittingSet N v_trials_count v_trials_days v_trials_ticks v_den_parts v_den_rate) fun r8 => some r8
set_option maxHeartbeats 4000000 in
set_option maxRecDepth 100000 in
theorem c8_fits (l : Launch) (D : va_G) (cy : Nat → ClassId) (N : Nat) (h0 h0_den h0_den_rate h0_trials h0_trials_days h0_trials_ticks : Nat) (oh0_0 oh0_1 oh0_2 oh0_4 oh0_5 oh0_6 oh0_7 oh0_8 oh0_9 oh0_10 oh0_11 oh0_13 oh0_den_1 oh0_den_2 oh0_den_3 oh0_den_4 oh0_den_5 oh0_den_6 oh0_den_8 oh0_den_9 oh0_den_10 oh0_den_11 oh0_den_12 : Value) (v_den_parts : Int32) (v_den_rate : Nat → Int32) (v_trials_count : Int32) (v_trials_days : Nat → Int32) (v_trials_ticks : Nat → Int32) (r : Int32) (hM : f8_fits N v_den_parts v_den_rate v_trials_count v_trials_days v_trials_ticks = some r) (sz : Nat) : CTi l yX8_fits wsX8_fits r8_fits [.ref h0] D cy sz [(h0, .inr (8, [oh0_0, oh0_1, oh0_2, .ref h0_den, oh0_4, oh0_5, oh0_6, oh0_7, oh0_8, oh0_9, oh0_10, oh0_11, .ref h0_trials, oh0_13])), (h0_den, .inr (0, [.int v_den_parts, oh0_den_1, oh0_den_2, oh0_den_3, oh0_den_4, oh0_den_5, oh0_den_6, .ref h0_den_rate, oh0_den_8, oh0_den_9, oh0_den_10, oh0_den_11, oh0_den_12])), (h0_den_rate, .inl (cy 2, 7, .inl v_den_rate)), (h0_trials, .inr (7, [.int v_trials_count, .ref h0_trials_days, .ref h0_trials_ticks])), (h0_trials_days, .inl (cy 2, 10, .inl v_trials_days)), (h0_trials_ticks, .inl (cy 2, 10, .inl v_trials_ticks))] [(h0, .inr (8, [oh0_0, oh0_1, oh0_2, .ref h0_den, oh0_4, oh0_5, oh0_6, oh0_7, oh0_8, oh0_9, oh0_10, oh0_11, .ref h0_trials, oh0_13])), (h0_den, .inr (0, [.int v_den_parts, oh0_den_1, oh0_den_2, oh0_den_3, oh0_den_4, oh0_den_5, oh0_den_6, .ref h0_den_rate, oh0_den_8, oh0_den_9, oh0_den_10, oh0_den_11, oh0_den_12])), (h0_den_rate, .inl (cy 2, 7, .inl v_den_rate)), (h0_trials, .inr (7, [.int v_trials_count, .ref h0_trials_days, .ref h0_trials_ticks])), (h0_trials_days, .inl (cy 2, 10, .inl v_trials_days)), (h0_trials_ticks, .inl (cy 2, 10, .inl v_trials_ticks))] r := by
  unfold f8_fits at hM
  refine ct_oi (cc := cX8_fits) (maxL := 1) (ty := .int) (by decide +kernel) rfl (Nat.le_of_ble_eq_true rfl) (lv0 := [(0, .ref h0)]) rfl ?_
  intro p e s m args below meth c A Q ls hx hb hts hown hml hK hP hD hS hA hret hl
  have hown : s.vm.findClass RX8 = some m.cls := hown
  have k74 := hts (.fieldLink RX8 74 "CaveYears" "trials" "LCaveYears$Trials;") (List.mem_of_getElem? (i := 1) (by decide +kernel))
  have iX8 := (fun w h => (List.mem_cons_of_mem _ (List.mem_append_left _ (List.mem_append_left _ (List.mem_append_right _ h)))) : ∀ w ∈ wsX80, w ∈ wsX8_fits)
  have k23 := hts (.fieldLink RX8 23 "CaveYears" "den" "LCaveYears$Cave;") (List.mem_of_getElem? (i := 2) (by decide +kernel))
  refine lv_aload_n hx hb dX8_fits_0 rfl (lv_at hl 0 rfl) ?_
  refine va_get (D := D) (ci := 8) (v := .ref h0_trials) (C := RX8) (T := TX8) (N := 14) hx hb hts iX8 hown hK hP 0 rfl rfl 12 (by decide) k74 (fun _ h9 => h9) rfl dX8_fits_1 ?_
  refine lv_aload_n hx hb dX8_fits_4 rfl (lv_at hl 0 rfl) ?_
  refine va_get (D := D) (ci := 8) (v := .ref h0_den) (C := RX8) (T := TX8) (N := 14) hx hb hts iX8 hown hK hP 0 rfl rfl 3 (by decide) k23 (fun _ h9 => h9) rfl dX8_fits_5 ?_
  obtain ⟨r8, hc8, hM⟩ := ob1_some hM
  refine cl_vi (As := [.ref h0_den]) (rest := []) (ci := 7) (q0 := 3) (wr := [(h0, .inr (8, [oh0_0, oh0_1, oh0_2, .ref h0_den, oh0_4, oh0_5, oh0_6, oh0_7, oh0_8, oh0_9, oh0_10, oh0_11, .ref h0_trials, oh0_13]))]) (ws2 := [(h0, .inr (8, [oh0_0, oh0_1, oh0_2, .ref h0_den, oh0_4, oh0_5, oh0_6, oh0_7, oh0_8, oh0_9, oh0_10, oh0_11, .ref h0_trials, oh0_13])), (h0_den, .inr (0, [.int v_den_parts, oh0_den_1, oh0_den_2, oh0_den_3, oh0_den_4, oh0_den_5, oh0_den_6, .ref h0_den_rate, oh0_den_8, oh0_den_9, oh0_den_10, oh0_den_11, oh0_den_12])), (h0_den_rate, .inl (cy 2, 7, .inl v_den_rate)), (h0_trials, .inr (7, [.int v_trials_count, .ref h0_trials_days, .ref h0_trials_ticks])), (h0_trials_days, .inl (cy 2, 10, .inl v_trials_days)), (h0_trials_ticks, .inl (cy 2, 10, .inl v_trials_ticks))]) (isC := [3, 4, 5, 1, 2]) (isR := [0]) (pm := [0, 4, 5, 1, 2, 3]) hx hb hml hown hts (c7_fittingSet l D cy N h0_trials h0_trials_days h0_trials_ticks h0_den h0_den_rate oh0_den_1 oh0_den_2 oh0_den_3 oh0_den_4 oh0_den_5 oh0_den_6 oh0_den_8 oh0_den_9 oh0_den_10 oh0_den_11 oh0_den_12 v_trials_count v_trials_days v_trials_ticks v_den_parts v_den_rate r8 hc8) (cwV 1 hts gX8_fits_X7_fittingSet rfl rfl rfl (by decide +kernel) ⟨Nat.le_of_ble_eq_true rfl, Nat.le_of_ble_eq_true rfl⟩) hK hP hD hS hA rfl rfl rfl rfl rfl (by decide) rfl rfl rfl hl.1 (Nat.le_of_ble_eq_true rfl) dX8_fits_8 ⟨Nat.zero_le _, Nat.zero_le _⟩ rfl rfl (fun H locs hP hD hS => ?_)
  obtain rfl := si1 hM
  exact hret _ _ _ _ _ dX8_fits_11 rfl rfl hP hD hS

-- ===== X8_line line (II)I =====
abbrev r8_line : Room := { frames := 1, cells := 0, slots := 0, locals := 22 }
def f8_line (N : Nat) (p1 : Int32) (p2 : Int32) (v_registers_count : Int32) (v_registers_date : Nat → Int32) (v_registers_age : Nat → Int32) : Option (Int32 × Int32 × (Nat → Int32) × (Nat → Int32)) :=
  if p1 < (0 : Int32) then (some ((-1000000002 : Int32), v_registers_count, v_registers_date, v_registers_age)) else (if (500 : Int32) < p1 then (some ((-1000000002 : Int32), v_registers_count, v_registers_date, v_registers_age)) else (if p2 < (0 : Int32) then (some ((-1000000002 : Int32), v_registers_count, v_registers_date, v_registers_age)) else (if p2 ≤ (200 : Int32) then (ob4 (f4_add N p1 p2 v_registers_count v_registers_date v_registers_age) fun r31 v_registers_count_31 v_registers_date_31 v_registers_age_31 => some (r31, v_registers_count_31, v_registers_date_31, v_registers_age_31)) else (some ((-1000000002 : Int32), v_registers_count, v_registers_date, v_registers_age)))))
set_option maxHeartbeats 4000000 in
set_option maxRecDepth 100000 in
theorem c8_line (l : Launch) (D : va_G) (cy : Nat → ClassId) (N : Nat) (h0 h0_registers h0_registers_date h0_registers_age : Nat) (oh0_0 oh0_1 oh0_2 oh0_3 oh0_4 oh0_5 oh0_6 oh0_7 oh0_8 oh0_9 oh0_10 oh0_11 oh0_12 oh0_registers_1 : Value) (p1 : Int32) (p2 : Int32) (v_registers_count : Int32) (v_registers_date : Nat → Int32) (v_registers_age : Nat → Int32) (r : Int32) (nv_registers_count : Int32) (nv_registers_date : Nat → Int32) (nv_registers_age : Nat → Int32) (hM : f8_line N p1 p2 v_registers_count v_registers_date v_registers_age = some (r, nv_registers_count, nv_registers_date, nv_registers_age)) (sz : Nat) : CTi l yX8_line wsX8_line r8_line [.ref h0, .int p1, .int p2] D cy sz [(h0, .inr (8, [oh0_0, oh0_1, oh0_2, oh0_3, oh0_4, oh0_5, oh0_6, oh0_7, oh0_8, oh0_9, oh0_10, oh0_11, oh0_12, .ref h0_registers])), (h0_registers, .inr (4, [.int v_registers_count, oh0_registers_1, .ref h0_registers_date, .ref h0_registers_age])), (h0_registers_date, .inl (cy 2, 8, .inl v_registers_date)), (h0_registers_age, .inl (cy 2, 8, .inl v_registers_age))] [(h0, .inr (8, [oh0_0, oh0_1, oh0_2, oh0_3, oh0_4, oh0_5, oh0_6, oh0_7, oh0_8, oh0_9, oh0_10, oh0_11, oh0_12, .ref h0_registers])), (h0_registers, .inr (4, [.int nv_registers_count, oh0_registers_1, .ref h0_registers_date, .ref h0_registers_age])), (h0_registers_date, .inl (cy 2, 8, .inl nv_registers_date)), (h0_registers_age, .inl (cy 2, 8, .inl nv_registers_age))] r := by
  unfold f8_line at hM
  refine ct_oi (cc := cX8_line) (maxL := 3) (ty := .int) (by decide +kernel) rfl (Nat.le_of_ble_eq_true rfl) (lv0 := [(0, .ref h0), (1, .int p1), (2, .int p2)]) rfl ?_
  intro p e s m args below meth c A Q ls hx hb hts hown hml hK hP hD hS hA hret hl
  have hown : s.vm.findClass RX8 = some m.cls := hown
  have k85 := hts (.constant RX8 85 (-1000000002)) (List.mem_of_getElem? (i := 1) (by decide +kernel))
  have k81 := hts (.fieldLink RX8 81 "CaveYears" "registers" "LCaveYears$Registers;") (List.mem_of_getElem? (i := 2) (by decide +kernel))
  have iX8 := (fun w h => (List.mem_cons_of_mem _ (List.mem_append_left _ (List.mem_append_right _ h))) : ∀ w ∈ wsX80, w ∈ wsX8_line)
  refine lv_iload_n hx hb dX8_line_0 rfl (lv_at hl 1 rfl) ?_
  refine lv_if_lt (tgt := 22) hx hb dX8_line_1 (by decide) (fun c1 => ?_) (fun c1 => ?_)
  · have hM := g_pos c1 hM
    refine lv_ldc (v := -1000000002) hx hb hown k85 dX8_line_22 ?_
    obtain ⟨rfl, rfl, rfl, rfl⟩ := si4 hM
    exact hret _ _ _ _ _ dX8_line_24 rfl rfl hP hD hS
  · have hM := g_neg c1 hM
    refine lv_iload_n hx hb dX8_line_4 rfl (lv_at hl 1 rfl) ?_
    refine lv_sipush (v := 500) hx hb dX8_line_5 (by decide) ?_
    refine lv_icmp_gt (tgt := 22) hx hb dX8_line_8 (by decide) (fun c8 => ?_) (fun c8 => ?_)
    · have hM := g_pos c8 hM
      refine lv_ldc (v := -1000000002) hx hb hown k85 dX8_line_22 ?_
      obtain ⟨rfl, rfl, rfl, rfl⟩ := si4 hM
      exact hret _ _ _ _ _ dX8_line_24 rfl rfl hP hD hS
    · have hM := g_neg c8 hM
      refine lv_iload_n hx hb dX8_line_11 rfl (lv_at hl 2 rfl) ?_
      refine lv_if_lt (tgt := 22) hx hb dX8_line_12 (by decide) (fun c12 => ?_) (fun c12 => ?_)
      · have hM := g_pos c12 hM
        refine lv_ldc (v := -1000000002) hx hb hown k85 dX8_line_22 ?_
        obtain ⟨rfl, rfl, rfl, rfl⟩ := si4 hM
        exact hret _ _ _ _ _ dX8_line_24 rfl rfl hP hD hS
      · have hM := g_neg c12 hM
        refine lv_iload_n hx hb dX8_line_15 rfl (lv_at hl 2 rfl) ?_
        refine lv_sipush (v := 200) hx hb dX8_line_16 (by decide) ?_
        refine lv_icmp_le (tgt := 25) hx hb dX8_line_19 (by decide) (fun c19 => ?_) (fun c19 => ?_)
        · have hM := g_pos c19 hM
          refine lv_aload_n hx hb dX8_line_25 rfl (lv_at hl 0 rfl) ?_
          refine va_get (D := D) (ci := 8) (v := .ref h0_registers) (C := RX8) (T := TX8) (N := 14) hx hb hts iX8 hown hK hP 0 rfl rfl 13 (by decide) k81 (fun _ h9 => h9) rfl dX8_line_26 ?_
          refine lv_iload_n hx hb dX8_line_29 rfl (lv_at hl 1 rfl) ?_
          refine lv_iload_n hx hb dX8_line_30 rfl (lv_at hl 2 rfl) ?_
          obtain ⟨r31, v_registers_count_31, v_registers_date_31, v_registers_age_31, hc31, hM⟩ := ob4_some hM
          refine cl_vi (As := [.int p1, .int p2]) (rest := []) (ci := 4) (q0 := 1) (wr := [(h0, .inr (8, [oh0_0, oh0_1, oh0_2, oh0_3, oh0_4, oh0_5, oh0_6, oh0_7, oh0_8, oh0_9, oh0_10, oh0_11, oh0_12, .ref h0_registers]))]) (ws2 := [(h0, .inr (8, [oh0_0, oh0_1, oh0_2, oh0_3, oh0_4, oh0_5, oh0_6, oh0_7, oh0_8, oh0_9, oh0_10, oh0_11, oh0_12, .ref h0_registers])), (h0_registers, .inr (4, [.int v_registers_count_31, oh0_registers_1, .ref h0_registers_date, .ref h0_registers_age])), (h0_registers_date, .inl (cy 2, 8, .inl v_registers_date_31)), (h0_registers_age, .inl (cy 2, 8, .inl v_registers_age_31))]) (isC := [1, 2, 3]) (isR := [0]) (pm := [0, 1, 2, 3]) hx hb hml hown hts (c4_add l D cy N h0_registers h0_registers_date h0_registers_age oh0_registers_1 p1 p2 v_registers_count v_registers_date v_registers_age r31 v_registers_count_31 v_registers_date_31 v_registers_age_31 hc31) (cwV 2 hts gX8_line_X4_add rfl rfl rfl (by decide +kernel) ⟨Nat.le_of_ble_eq_true rfl, Nat.le_of_ble_eq_true rfl⟩) hK hP hD hS hA rfl rfl rfl rfl rfl (by decide) rfl rfl rfl hl.1 (Nat.le_of_ble_eq_true rfl) dX8_line_31 ⟨Nat.zero_le _, Nat.zero_le _⟩ rfl rfl (fun H locs hP hD hS => ?_)
          obtain ⟨rfl, rfl, rfl, rfl⟩ := si4 hM
          exact hret _ _ _ _ _ dX8_line_34 rfl rfl hP hD hS
        · have hM := g_neg c19 hM
          refine lv_ldc (v := -1000000002) hx hb hown k85 dX8_line_22 ?_
          obtain ⟨rfl, rfl, rfl, rfl⟩ := si4 hM
          exact hret _ _ _ _ _ dX8_line_24 rfl rfl hP hD hS

-- ===== X8_canBeOne canBeOne (II)I =====
abbrev r8_canBeOne : Room := { frames := 2, cells := 0, slots := 0, locals := 45 }
def f8_canBeOne (N : Nat) (p1 : Int32) (p2 : Int32) (v_registers_count : Int32) (v_registers_date : Nat → Int32) (v_registers_age : Nat → Int32) : Option Int32 :=
  ob1 (f4_has N p1 v_registers_count) fun r5 => if r5 = (0 : Int32) then (some (-1000000002 : Int32)) else (ob1 (f4_has N p2 v_registers_count) fun r16 => if r16 = (0 : Int32) then (some (-1000000002 : Int32)) else (if p1 = p2 then (some (-1000000002 : Int32)) else (ob1 (f4_agree N p1 p2 v_registers_count v_registers_date v_registers_age) fun r36 => if r36 = (0 : Int32) then (some (0 : Int32)) else (some (1 : Int32)))))
set_option maxHeartbeats 4000000 in
set_option maxRecDepth 100000 in
theorem c8_canBeOne (l : Launch) (D : va_G) (cy : Nat → ClassId) (N : Nat) (h0 h0_registers h0_registers_date h0_registers_age : Nat) (oh0_0 oh0_1 oh0_2 oh0_3 oh0_4 oh0_5 oh0_6 oh0_7 oh0_8 oh0_9 oh0_10 oh0_11 oh0_12 oh0_registers_1 : Value) (p1 : Int32) (p2 : Int32) (v_registers_count : Int32) (v_registers_date : Nat → Int32) (v_registers_age : Nat → Int32) (r : Int32) (hM : f8_canBeOne N p1 p2 v_registers_count v_registers_date v_registers_age = some r) (sz : Nat) : CTi l yX8_canBeOne wsX8_canBeOne r8_canBeOne [.ref h0, .int p1, .int p2] D cy sz [(h0, .inr (8, [oh0_0, oh0_1, oh0_2, oh0_3, oh0_4, oh0_5, oh0_6, oh0_7, oh0_8, oh0_9, oh0_10, oh0_11, oh0_12, .ref h0_registers])), (h0_registers, .inr (4, [.int v_registers_count, oh0_registers_1, .ref h0_registers_date, .ref h0_registers_age])), (h0_registers_date, .inl (cy 2, 8, .inl v_registers_date)), (h0_registers_age, .inl (cy 2, 8, .inl v_registers_age))] [(h0, .inr (8, [oh0_0, oh0_1, oh0_2, oh0_3, oh0_4, oh0_5, oh0_6, oh0_7, oh0_8, oh0_9, oh0_10, oh0_11, oh0_12, .ref h0_registers])), (h0_registers, .inr (4, [.int v_registers_count, oh0_registers_1, .ref h0_registers_date, .ref h0_registers_age])), (h0_registers_date, .inl (cy 2, 8, .inl v_registers_date)), (h0_registers_age, .inl (cy 2, 8, .inl v_registers_age))] r := by
  unfold f8_canBeOne at hM
  refine ct_oi (cc := cX8_canBeOne) (maxL := 3) (ty := .int) (by decide +kernel) rfl (Nat.le_of_ble_eq_true rfl) (lv0 := [(0, .ref h0), (1, .int p1), (2, .int p2)]) rfl ?_
  intro p e s m args below meth c A Q ls hx hb hts hown hml hK hP hD hS hA hret hl
  have hown : s.vm.findClass RX8 = some m.cls := hown
  have k81 := hts (.fieldLink RX8 81 "CaveYears" "registers" "LCaveYears$Registers;") (List.mem_of_getElem? (i := 1) (by decide +kernel))
  have iX8 := (fun w h => (List.mem_cons_of_mem _ (List.mem_append_left _ (List.mem_append_right _ h))) : ∀ w ∈ wsX80, w ∈ wsX8_canBeOne)
  have k85 := hts (.constant RX8 85 (-1000000002)) (List.mem_of_getElem? (i := 2) (by decide +kernel))
  refine lv_aload_n hx hb dX8_canBeOne_0 rfl (lv_at hl 0 rfl) ?_
  refine va_get (D := D) (ci := 8) (v := .ref h0_registers) (C := RX8) (T := TX8) (N := 14) hx hb hts iX8 hown hK hP 0 rfl rfl 13 (by decide) k81 (fun _ h9 => h9) rfl dX8_canBeOne_1 ?_
  refine lv_iload_n hx hb dX8_canBeOne_4 rfl (lv_at hl 1 rfl) ?_
  obtain ⟨r5, hc5, hM⟩ := ob1_some hM
  refine cl_vi (As := [.int p1]) (rest := []) (ci := 4) (q0 := 1) (wr := [(h0, .inr (8, [oh0_0, oh0_1, oh0_2, oh0_3, oh0_4, oh0_5, oh0_6, oh0_7, oh0_8, oh0_9, oh0_10, oh0_11, oh0_12, .ref h0_registers])), (h0_registers_date, .inl (cy 2, 8, .inl v_registers_date)), (h0_registers_age, .inl (cy 2, 8, .inl v_registers_age))]) (ws2 := [(h0, .inr (8, [oh0_0, oh0_1, oh0_2, oh0_3, oh0_4, oh0_5, oh0_6, oh0_7, oh0_8, oh0_9, oh0_10, oh0_11, oh0_12, .ref h0_registers])), (h0_registers, .inr (4, [.int v_registers_count, oh0_registers_1, .ref h0_registers_date, .ref h0_registers_age])), (h0_registers_date, .inl (cy 2, 8, .inl v_registers_date)), (h0_registers_age, .inl (cy 2, 8, .inl v_registers_age))]) (isC := [1]) (isR := [0, 2, 3]) (pm := [0, 3, 1, 2]) hx hb hml hown hts (c4_has l D cy N h0_registers oh0_registers_1 (.ref h0_registers_date) (.ref h0_registers_age) p1 v_registers_count r5 hc5) (cwV 1 hts gX8_canBeOne_X4_has rfl rfl rfl (by decide +kernel) ⟨Nat.le_of_ble_eq_true rfl, Nat.le_of_ble_eq_true rfl⟩) hK hP hD hS hA rfl rfl rfl rfl rfl (by decide) rfl rfl rfl hl.1 (Nat.le_of_ble_eq_true rfl) dX8_canBeOne_5 ⟨Nat.zero_le _, Nat.zero_le _⟩ rfl rfl (fun H locs hP hD hS => ?_)
  refine lv_if_eq (tgt := 27) hx hb dX8_canBeOne_8 (by decide) (fun c8 => ?_) (fun c8 => ?_)
  · have hM := g_pos c8 hM
    refine lv_ldc (v := -1000000002) hx hb hown k85 dX8_canBeOne_27 ?_
    obtain rfl := si1 hM
    exact hret _ _ _ _ _ dX8_canBeOne_29 rfl rfl hP hD hS
  · have hM := g_neg c8 hM
    refine lv_aload_n hx hb dX8_canBeOne_11 rfl (lv_at hl 0 rfl) ?_
    refine va_get (D := D) (ci := 8) (v := .ref h0_registers) (C := RX8) (T := TX8) (N := 14) hx hb hts iX8 hown hK hP 0 rfl rfl 13 (by decide) k81 (fun _ h9 => h9) rfl dX8_canBeOne_12 ?_
    refine lv_iload_n hx hb dX8_canBeOne_15 rfl (lv_at hl 2 rfl) ?_
    obtain ⟨r16, hc16, hM⟩ := ob1_some hM
    refine cl_vi (As := [.int p2]) (rest := []) (ci := 4) (q0 := 1) (wr := [(h0, .inr (8, [oh0_0, oh0_1, oh0_2, oh0_3, oh0_4, oh0_5, oh0_6, oh0_7, oh0_8, oh0_9, oh0_10, oh0_11, oh0_12, .ref h0_registers])), (h0_registers_date, .inl (cy 2, 8, .inl v_registers_date)), (h0_registers_age, .inl (cy 2, 8, .inl v_registers_age))]) (ws2 := [(h0, .inr (8, [oh0_0, oh0_1, oh0_2, oh0_3, oh0_4, oh0_5, oh0_6, oh0_7, oh0_8, oh0_9, oh0_10, oh0_11, oh0_12, .ref h0_registers])), (h0_registers, .inr (4, [.int v_registers_count, oh0_registers_1, .ref h0_registers_date, .ref h0_registers_age])), (h0_registers_date, .inl (cy 2, 8, .inl v_registers_date)), (h0_registers_age, .inl (cy 2, 8, .inl v_registers_age))]) (isC := [1]) (isR := [0, 2, 3]) (pm := [0, 3, 1, 2]) hx hb hml hown hts (c4_has l D cy N h0_registers oh0_registers_1 (.ref h0_registers_date) (.ref h0_registers_age) p2 v_registers_count r16 hc16) (cwV 1 hts gX8_canBeOne_X4_has rfl rfl rfl (by decide +kernel) ⟨Nat.le_of_ble_eq_true rfl, Nat.le_of_ble_eq_true rfl⟩) hK hP hD hS hA rfl rfl rfl rfl rfl (by decide) rfl rfl rfl hl.1 (Nat.le_of_ble_eq_true rfl) dX8_canBeOne_16 ⟨Nat.zero_le _, Nat.zero_le _⟩ rfl rfl (fun H locs hP hD hS => ?_)
    refine lv_if_eq (tgt := 27) hx hb dX8_canBeOne_19 (by decide) (fun c19 => ?_) (fun c19 => ?_)
    · have hM := g_pos c19 hM
      refine lv_ldc (v := -1000000002) hx hb hown k85 dX8_canBeOne_27 ?_
      obtain rfl := si1 hM
      exact hret _ _ _ _ _ dX8_canBeOne_29 rfl rfl hP hD hS
    · have hM := g_neg c19 hM
      refine lv_iload_n hx hb dX8_canBeOne_22 rfl (lv_at hl 1 rfl) ?_
      refine lv_iload_n hx hb dX8_canBeOne_23 rfl (lv_at hl 2 rfl) ?_
      refine lv_icmp_ne (tgt := 30) hx hb dX8_canBeOne_24 (by decide) (fun c24 => ?_) (fun c24 => ?_)
      · have hM := g_neg c24 hM
        refine lv_aload_n hx hb dX8_canBeOne_30 rfl (lv_at hl 0 rfl) ?_
        refine va_get (D := D) (ci := 8) (v := .ref h0_registers) (C := RX8) (T := TX8) (N := 14) hx hb hts iX8 hown hK hP 0 rfl rfl 13 (by decide) k81 (fun _ h9 => h9) rfl dX8_canBeOne_31 ?_
        refine lv_iload_n hx hb dX8_canBeOne_34 rfl (lv_at hl 1 rfl) ?_
        refine lv_iload_n hx hb dX8_canBeOne_35 rfl (lv_at hl 2 rfl) ?_
        obtain ⟨r36, hc36, hM⟩ := ob1_some hM
        refine cl_vi (As := [.int p1, .int p2]) (rest := []) (ci := 4) (q0 := 1) (wr := [(h0, .inr (8, [oh0_0, oh0_1, oh0_2, oh0_3, oh0_4, oh0_5, oh0_6, oh0_7, oh0_8, oh0_9, oh0_10, oh0_11, oh0_12, .ref h0_registers]))]) (ws2 := [(h0, .inr (8, [oh0_0, oh0_1, oh0_2, oh0_3, oh0_4, oh0_5, oh0_6, oh0_7, oh0_8, oh0_9, oh0_10, oh0_11, oh0_12, .ref h0_registers])), (h0_registers, .inr (4, [.int v_registers_count, oh0_registers_1, .ref h0_registers_date, .ref h0_registers_age])), (h0_registers_date, .inl (cy 2, 8, .inl v_registers_date)), (h0_registers_age, .inl (cy 2, 8, .inl v_registers_age))]) (isC := [1, 2, 3]) (isR := [0]) (pm := [0, 1, 2, 3]) hx hb hml hown hts (c4_agree l D cy N h0_registers h0_registers_date h0_registers_age oh0_registers_1 p1 p2 v_registers_count v_registers_date v_registers_age r36 hc36) (cwV 2 hts gX8_canBeOne_X4_agree rfl rfl rfl (by decide +kernel) ⟨Nat.le_of_ble_eq_true rfl, Nat.le_of_ble_eq_true rfl⟩) hK hP hD hS hA rfl rfl rfl rfl rfl (by decide) rfl rfl rfl hl.1 (Nat.le_of_ble_eq_true rfl) dX8_canBeOne_36 ⟨Nat.zero_le _, Nat.zero_le _⟩ rfl rfl (fun H locs hP hD hS => ?_)
        refine lv_if_eq (tgt := 46) hx hb dX8_canBeOne_39 (by decide) (fun c39 => ?_) (fun c39 => ?_)
        · have hM := g_pos c39 hM
          refine lv_iconst (v := 0) hx hb dX8_canBeOne_46 (by decide) ?_
          obtain rfl := si1 hM
          exact hret _ _ _ _ _ dX8_canBeOne_47 rfl rfl hP hD hS
        · have hM := g_neg c39 hM
          refine lv_iconst (v := 1) hx hb dX8_canBeOne_42 (by decide) ?_
          refine lv_goto (tgt := 47) hx hb dX8_canBeOne_43 (by decide) ?_
          obtain rfl := si1 hM
          exact hret _ _ _ _ _ dX8_canBeOne_47 rfl rfl hP hD hS
      · have hM := g_pos c24 hM
        refine lv_ldc (v := -1000000002) hx hb hown k85 dX8_canBeOne_27 ?_
        obtain rfl := si1 hM
        exact hret _ _ _ _ _ dX8_canBeOne_29 rfl rfl hP hD hS

-- ===== X8_fewest fewest (I)I =====
abbrev r8_fewest : Room := { frames := 15, cells := 0, slots := 0, locals := 353 }
def f8_fewest_J19 (N : Nat) (p1 : Int32) (v_registers_count : Int32) (v_registers_man : Nat → Int32) (v_registers_date : Nat → Int32) (v_registers_age : Nat → Int32) : Option (Int32 × (Nat → Int32)) :=
  ob2 (f4_leastMen N v_registers_count v_registers_man v_registers_date v_registers_age) fun r23 v_registers_man_23 => if p1 = (-1 : Int32) then (some (r23, v_registers_man_23)) else (gi p1 8 (some ((v_registers_man_23 p1.toNatClampNeg), v_registers_man_23)))
def f8_fewest (N : Nat) (p1 : Int32) (v_registers_count : Int32) (v_registers_man : Nat → Int32) (v_registers_date : Nat → Int32) (v_registers_age : Nat → Int32) : Option (Int32 × (Nat → Int32)) :=
  if p1 = (-1 : Int32) then (f8_fewest_J19 N p1 v_registers_count v_registers_man v_registers_date v_registers_age ) else (ob1 (f4_has N p1 v_registers_count) fun r10 => if r10 = (0 : Int32) then (some ((-1000000002 : Int32), v_registers_man)) else (f8_fewest_J19 N p1 v_registers_count v_registers_man v_registers_date v_registers_age ))
set_option maxHeartbeats 4000000 in
set_option maxRecDepth 100000 in
theorem c8_fewest (l : Launch) (D : va_G) (cy : Nat → ClassId) (N : Nat) (h0 h0_registers h0_registers_man h0_registers_date h0_registers_age : Nat) (oh0_0 oh0_1 oh0_2 oh0_3 oh0_4 oh0_5 oh0_6 oh0_7 oh0_8 oh0_9 oh0_10 oh0_11 oh0_12 : Value) (p1 : Int32) (v_registers_count : Int32) (v_registers_man : Nat → Int32) (v_registers_date : Nat → Int32) (v_registers_age : Nat → Int32) (r : Int32) (nv_registers_man : Nat → Int32) (hM : f8_fewest N p1 v_registers_count v_registers_man v_registers_date v_registers_age = some (r, nv_registers_man)) (sz : Nat) : CTi l yX8_fewest wsX8_fewest r8_fewest [.ref h0, .int p1] D cy sz [(h0, .inr (8, [oh0_0, oh0_1, oh0_2, oh0_3, oh0_4, oh0_5, oh0_6, oh0_7, oh0_8, oh0_9, oh0_10, oh0_11, oh0_12, .ref h0_registers])), (h0_registers, .inr (4, [.int v_registers_count, .ref h0_registers_man, .ref h0_registers_date, .ref h0_registers_age])), (h0_registers_man, .inl (cy 2, 8, .inl v_registers_man)), (h0_registers_date, .inl (cy 2, 8, .inl v_registers_date)), (h0_registers_age, .inl (cy 2, 8, .inl v_registers_age))] [(h0, .inr (8, [oh0_0, oh0_1, oh0_2, oh0_3, oh0_4, oh0_5, oh0_6, oh0_7, oh0_8, oh0_9, oh0_10, oh0_11, oh0_12, .ref h0_registers])), (h0_registers, .inr (4, [.int v_registers_count, .ref h0_registers_man, .ref h0_registers_date, .ref h0_registers_age])), (h0_registers_man, .inl (cy 2, 8, .inl nv_registers_man)), (h0_registers_date, .inl (cy 2, 8, .inl v_registers_date)), (h0_registers_age, .inl (cy 2, 8, .inl v_registers_age))] r := by
  unfold f8_fewest at hM
  refine ct_oi (cc := cX8_fewest) (maxL := 3) (ty := .int) (by decide +kernel) rfl (Nat.le_of_ble_eq_true rfl) (lv0 := [(0, .ref h0), (1, .int p1)]) rfl ?_
  intro p e s m args below meth c A Q ls hx hb hts hown hml hK hP hD hS hA hret hl
  have hown : s.vm.findClass RX8 = some m.cls := hown
  have k81 := hts (.fieldLink RX8 81 "CaveYears" "registers" "LCaveYears$Registers;") (List.mem_of_getElem? (i := 1) (by decide +kernel))
  have iX8 := (fun w h => (List.mem_cons_of_mem _ (List.mem_append_left _ (List.mem_append_right _ h))) : ∀ w ∈ wsX80, w ∈ wsX8_fewest)
  have k85 := hts (.constant RX8 85 (-1000000002)) (List.mem_of_getElem? (i := 2) (by decide +kernel))
  have k247 := hts (.fieldLink RX8 247 "CaveYears$Registers" "man" "[I") (List.mem_of_getElem? (i := 3) (by decide +kernel))
  have iX4 := (fun w h => (List.mem_cons_of_mem _ (List.mem_append_right _ h)) : ∀ w ∈ wsX40, w ∈ wsX8_fewest)
  refine lv_iload_n hx hb dX8_fewest_0 rfl (lv_at hl 1 rfl) ?_
  refine lv_iconst (v := -1) hx hb dX8_fewest_1 (by decide) ?_
  have K19 : ∀ (H : Heap) (locs : List Loc) (ls : Array Slot), f8_fewest_J19 N p1 v_registers_count v_registers_man v_registers_date v_registers_age  = some (r, nv_registers_man) → va_P D vwCl [(h0, .inr (8, [oh0_0, oh0_1, oh0_2, oh0_3, oh0_4, oh0_5, oh0_6, oh0_7, oh0_8, oh0_9, oh0_10, oh0_11, oh0_12, .ref h0_registers])), (h0_registers, .inr (4, [.int v_registers_count, .ref h0_registers_man, .ref h0_registers_date, .ref h0_registers_age])), (h0_registers_man, .inl (cy 2, 8, .inl v_registers_man)), (h0_registers_date, .inl (cy 2, 8, .inl v_registers_date)), (h0_registers_age, .inl (cy 2, 8, .inl v_registers_age))] H → va_D A [(h0, .inr (8, [oh0_0, oh0_1, oh0_2, oh0_3, oh0_4, oh0_5, oh0_6, oh0_7, oh0_8, oh0_9, oh0_10, oh0_11, oh0_12, .ref h0_registers])), (h0_registers, .inr (4, [.int v_registers_count, .ref h0_registers_man, .ref h0_registers_date, .ref h0_registers_age])), (h0_registers_man, .inl (cy 2, 8, .inl v_registers_man)), (h0_registers_date, .inl (cy 2, 8, .inl v_registers_date)), (h0_registers_age, .inl (cy 2, 8, .inl v_registers_age))] → va_S A s.heap H locs → lv_has ls 3 [(0, .ref h0), (1, .int p1)] → W p l e r8_fewest s m args below meth c H locs 0 0 Q (F0 m 19 ls []) := by
    intro  H locs ls hM hP hD hS hl
    unfold f8_fewest_J19 at hM
    refine lv_aload_n hx hb dX8_fewest_19 rfl (lv_at hl 0 rfl) ?_
    refine va_get (D := D) (ci := 8) (v := .ref h0_registers) (C := RX8) (T := TX8) (N := 14) hx hb hts iX8 hown hK hP 0 rfl rfl 13 (by decide) k81 (fun _ h9 => h9) rfl dX8_fewest_20 ?_
    obtain ⟨r23, v_registers_man_23, hc23, hM⟩ := ob2_some hM
    refine cl_vi (As := []) (rest := []) (ci := 4) (q0 := 1) (wr := [(h0, .inr (8, [oh0_0, oh0_1, oh0_2, oh0_3, oh0_4, oh0_5, oh0_6, oh0_7, oh0_8, oh0_9, oh0_10, oh0_11, oh0_12, .ref h0_registers]))]) (ws2 := [(h0, .inr (8, [oh0_0, oh0_1, oh0_2, oh0_3, oh0_4, oh0_5, oh0_6, oh0_7, oh0_8, oh0_9, oh0_10, oh0_11, oh0_12, .ref h0_registers])), (h0_registers, .inr (4, [.int v_registers_count, .ref h0_registers_man, .ref h0_registers_date, .ref h0_registers_age])), (h0_registers_man, .inl (cy 2, 8, .inl v_registers_man_23)), (h0_registers_date, .inl (cy 2, 8, .inl v_registers_date)), (h0_registers_age, .inl (cy 2, 8, .inl v_registers_age))]) (isC := [1, 2, 3, 4]) (isR := [0]) (pm := [0, 1, 2, 3, 4]) hx hb hml hown hts (c4_leastMen l D cy N h0_registers h0_registers_man h0_registers_date h0_registers_age v_registers_count v_registers_man v_registers_date v_registers_age r23 v_registers_man_23 hc23) (cwV 0 hts gX8_fewest_X4_leastMen rfl rfl rfl (by decide +kernel) ⟨Nat.le_of_ble_eq_true rfl, Nat.le_of_ble_eq_true rfl⟩) hK hP hD hS hA rfl rfl rfl rfl rfl (by decide) rfl rfl rfl hl.1 (Nat.le_of_ble_eq_true rfl) dX8_fewest_23 ⟨Nat.zero_le _, Nat.zero_le _⟩ rfl rfl (fun H locs hP hD hS => ?_)
    refine lv_istore_n (lv' := [(2, .int r23), (0, .ref h0), (1, .int p1)]) hx hb dX8_fewest_26 rfl hl (by decide) rfl (fun ls hl => ?_)
    refine lv_iload_n hx hb dX8_fewest_27 rfl (lv_at hl 2 rfl) ?_
    refine lv_iconst (v := -1) hx hb dX8_fewest_28 (by decide) ?_
    refine lv_icmp_ne (tgt := 36) hx hb dX8_fewest_29 (by decide) (fun c29 => ?_) (fun c29 => ?_)
    · have hM := g_neg c29 hM
      refine lv_aload_n hx hb dX8_fewest_36 rfl (lv_at hl 1 rfl) ?_
      refine va_get (D := D) (ci := 8) (v := .ref h0_registers) (C := RX8) (T := TX8) (N := 14) hx hb hts iX8 hown hK hP 0 rfl rfl 13 (by decide) k81 (fun _ h9 => h9) rfl dX8_fewest_37 ?_
      refine va_get (D := D) (ci := 4) (v := .ref h0_registers_man) (C := RX4) (T := TX4) (N := 4) hx hb hts iX4 hown hK hP 1 rfl rfl 1 (by decide) k247 (fun _ h9 => h9) rfl dX8_fewest_40 ?_
      refine lv_iload_n hx hb dX8_fewest_43 rfl (lv_at hl 2 rfl) ?_
      obtain ⟨h44, hM⟩ := gi_some hM
      refine va_iald hx hb hK hP 2 2 rfl rfl h44 dX8_fewest_44 ?_
      obtain ⟨rfl, rfl⟩ := si2 hM
      exact hret _ _ _ _ _ dX8_fewest_45 rfl rfl hP hD hS
    · have hM := g_pos c29 hM
      refine lv_iload_n hx hb dX8_fewest_32 rfl (lv_at hl 0 rfl) ?_
      refine lv_goto (tgt := 45) hx hb dX8_fewest_33 (by decide) ?_
      obtain ⟨rfl, rfl⟩ := si2 hM
      exact hret _ _ _ _ _ dX8_fewest_45 rfl rfl hP hD hS
  refine lv_icmp_eq (tgt := 19) hx hb dX8_fewest_2 (by decide) (fun c2 => ?_) (fun c2 => ?_)
  · have hM := g_pos c2 hM
    exact K19  _ _ _ hM hP hD hS (lv_sub hl [0, 1] rfl)
  · have hM := g_neg c2 hM
    refine lv_aload_n hx hb dX8_fewest_5 rfl (lv_at hl 0 rfl) ?_
    refine va_get (D := D) (ci := 8) (v := .ref h0_registers) (C := RX8) (T := TX8) (N := 14) hx hb hts iX8 hown hK hP 0 rfl rfl 13 (by decide) k81 (fun _ h9 => h9) rfl dX8_fewest_6 ?_
    refine lv_iload_n hx hb dX8_fewest_9 rfl (lv_at hl 1 rfl) ?_
    obtain ⟨r10, hc10, hM⟩ := ob1_some hM
    refine cl_vi (As := [.int p1]) (rest := []) (ci := 4) (q0 := 1) (wr := [(h0, .inr (8, [oh0_0, oh0_1, oh0_2, oh0_3, oh0_4, oh0_5, oh0_6, oh0_7, oh0_8, oh0_9, oh0_10, oh0_11, oh0_12, .ref h0_registers])), (h0_registers_man, .inl (cy 2, 8, .inl v_registers_man)), (h0_registers_date, .inl (cy 2, 8, .inl v_registers_date)), (h0_registers_age, .inl (cy 2, 8, .inl v_registers_age))]) (ws2 := [(h0, .inr (8, [oh0_0, oh0_1, oh0_2, oh0_3, oh0_4, oh0_5, oh0_6, oh0_7, oh0_8, oh0_9, oh0_10, oh0_11, oh0_12, .ref h0_registers])), (h0_registers, .inr (4, [.int v_registers_count, .ref h0_registers_man, .ref h0_registers_date, .ref h0_registers_age])), (h0_registers_man, .inl (cy 2, 8, .inl v_registers_man)), (h0_registers_date, .inl (cy 2, 8, .inl v_registers_date)), (h0_registers_age, .inl (cy 2, 8, .inl v_registers_age))]) (isC := [1]) (isR := [0, 2, 3, 4]) (pm := [0, 4, 1, 2, 3]) hx hb hml hown hts (c4_has l D cy N h0_registers (.ref h0_registers_man) (.ref h0_registers_date) (.ref h0_registers_age) p1 v_registers_count r10 hc10) (cwV 1 hts gX8_fewest_X4_has rfl rfl rfl (by decide +kernel) ⟨Nat.le_of_ble_eq_true rfl, Nat.le_of_ble_eq_true rfl⟩) hK hP hD hS hA rfl rfl rfl rfl rfl (by decide) rfl rfl rfl hl.1 (Nat.le_of_ble_eq_true rfl) dX8_fewest_10 ⟨Nat.zero_le _, Nat.zero_le _⟩ rfl rfl (fun H locs hP hD hS => ?_)
    refine lv_if_ne (tgt := 19) hx hb dX8_fewest_13 (by decide) (fun c13 => ?_) (fun c13 => ?_)
    · have hM := g_neg c13 hM
      exact K19  _ _ _ hM hP hD hS (lv_sub hl [0, 1] rfl)
    · have hM := g_pos c13 hM
      refine lv_ldc (v := -1000000002) hx hb hown k85 dX8_fewest_16 ?_
      obtain ⟨rfl, rfl⟩ := si2 hM
      exact hret _ _ _ _ _ dX8_fewest_18 rfl rfl hP hD hS

-- ===== X8_tear tear ()I =====
abbrev r8_tear : Room := { frames := 0, cells := 0, slots := 0, locals := 0 }
def f8_tear (N : Nat) (v_trials_count : Int32) (v_registers_count : Int32) : Option (Int32 × Int32 × Int32) :=
  some ((v_trials_count + v_registers_count), (0 : Int32), (0 : Int32))
set_option maxHeartbeats 4000000 in
set_option maxRecDepth 100000 in
theorem c8_tear (l : Launch) (D : va_G) (cy : Nat → ClassId) (N : Nat) (h0 h0_trials h0_registers : Nat) (oh0_0 oh0_1 oh0_2 oh0_3 oh0_4 oh0_5 oh0_6 oh0_7 oh0_8 oh0_9 oh0_10 oh0_11 oh0_trials_1 oh0_trials_2 oh0_registers_1 oh0_registers_2 oh0_registers_3 : Value) (v_trials_count : Int32) (v_registers_count : Int32) (r : Int32) (nv_trials_count : Int32) (nv_registers_count : Int32) (hM : f8_tear N v_trials_count v_registers_count = some (r, nv_trials_count, nv_registers_count)) (sz : Nat) : CTi l yX8_tear wsX8_tear r8_tear [.ref h0] D cy sz [(h0, .inr (8, [oh0_0, oh0_1, oh0_2, oh0_3, oh0_4, oh0_5, oh0_6, oh0_7, oh0_8, oh0_9, oh0_10, oh0_11, .ref h0_trials, .ref h0_registers])), (h0_trials, .inr (7, [.int v_trials_count, oh0_trials_1, oh0_trials_2])), (h0_registers, .inr (4, [.int v_registers_count, oh0_registers_1, oh0_registers_2, oh0_registers_3]))] [(h0, .inr (8, [oh0_0, oh0_1, oh0_2, oh0_3, oh0_4, oh0_5, oh0_6, oh0_7, oh0_8, oh0_9, oh0_10, oh0_11, .ref h0_trials, .ref h0_registers])), (h0_trials, .inr (7, [.int nv_trials_count, oh0_trials_1, oh0_trials_2])), (h0_registers, .inr (4, [.int nv_registers_count, oh0_registers_1, oh0_registers_2, oh0_registers_3]))] r := by
  unfold f8_tear at hM
  refine ct_oi (cc := cX8_tear) (maxL := 2) (ty := .int) (by decide +kernel) rfl (Nat.le_of_ble_eq_true rfl) (lv0 := [(0, .ref h0)]) rfl ?_
  intro p e s m args below meth c A Q ls hx hb hts hown hml hK hP hD hS hA hret hl
  have hown : s.vm.findClass RX8 = some m.cls := hown
  have k74 := hts (.fieldLink RX8 74 "CaveYears" "trials" "LCaveYears$Trials;") (List.mem_of_getElem? (i := 1) (by decide +kernel))
  have iX8 := (fun w h => (List.mem_cons_of_mem _ (List.mem_append_left _ (List.mem_append_left _ (List.mem_append_right _ h)))) : ∀ w ∈ wsX80, w ∈ wsX8_tear)
  have k108 := hts (.fieldLink RX8 108 "CaveYears$Trials" "count" "I") (List.mem_of_getElem? (i := 2) (by decide +kernel))
  have iX7 := (fun w h => (List.mem_cons_of_mem _ (List.mem_append_left _ (List.mem_append_right _ h))) : ∀ w ∈ wsX70, w ∈ wsX8_tear)
  have k81 := hts (.fieldLink RX8 81 "CaveYears" "registers" "LCaveYears$Registers;") (List.mem_of_getElem? (i := 3) (by decide +kernel))
  have k109 := hts (.fieldLink RX8 109 "CaveYears$Registers" "count" "I") (List.mem_of_getElem? (i := 4) (by decide +kernel))
  have iX4 := (fun w h => (List.mem_cons_of_mem _ (List.mem_append_right _ h)) : ∀ w ∈ wsX40, w ∈ wsX8_tear)
  refine lv_aload_n hx hb dX8_tear_0 rfl (lv_at hl 0 rfl) ?_
  refine va_get (D := D) (ci := 8) (v := .ref h0_trials) (C := RX8) (T := TX8) (N := 14) hx hb hts iX8 hown hK hP 0 rfl rfl 12 (by decide) k74 (fun _ h9 => h9) rfl dX8_tear_1 ?_
  refine va_get (D := D) (ci := 7) (v := .int v_trials_count) (C := RX7) (T := TX7) (N := 3) hx hb hts iX7 hown hK hP 1 rfl rfl 0 (by decide) k108 (fun _ h9 => h9) rfl dX8_tear_4 ?_
  refine lv_aload_n hx hb dX8_tear_7 rfl (lv_at hl 0 rfl) ?_
  refine va_get (D := D) (ci := 8) (v := .ref h0_registers) (C := RX8) (T := TX8) (N := 14) hx hb hts iX8 hown hK hP 0 rfl rfl 13 (by decide) k81 (fun _ h9 => h9) rfl dX8_tear_8 ?_
  refine va_get (D := D) (ci := 4) (v := .int v_registers_count) (C := RX4) (T := TX4) (N := 4) hx hb hts iX4 hown hK hP 2 rfl rfl 0 (by decide) k109 (fun _ h9 => h9) rfl dX8_tear_11 ?_
  refine lv_iadd hx hb dX8_tear_14 ?_
  refine lv_istore_n (lv' := [(1, .int (v_trials_count + v_registers_count)), (0, .ref h0)]) hx hb dX8_tear_15 rfl hl (by decide) rfl (fun ls hl => ?_)
  refine lv_aload_n hx hb dX8_tear_16 rfl (lv_at hl 1 rfl) ?_
  refine va_get (D := D) (ci := 8) (v := .ref h0_trials) (C := RX8) (T := TX8) (N := 14) hx hb hts iX8 hown hK hP 0 rfl rfl 12 (by decide) k74 (fun _ h9 => h9) rfl dX8_tear_17 ?_
  refine lv_iconst (v := 0) hx hb dX8_tear_20 (by decide) ?_
  refine va_put (D := D) (ci := 7) (v := .int (0 : Int32)) (ty := .int) (C := RX7) (T := TX7) (N := 3) hx hb hts iX7 tyX7 tyX7_ok nmX7 hown hK hP hD hS 1 rfl rfl 0 (by decide) k108 (fun _ h9 => h9) rfl (by decide +kernel) rfl rfl (Nat.le_of_ble_eq_true rfl) dX8_tear_21 (fun H locs hP hD hS => ?_)
  have hP : va_P D vwCl [(h0, .inr (8, [oh0_0, oh0_1, oh0_2, oh0_3, oh0_4, oh0_5, oh0_6, oh0_7, oh0_8, oh0_9, oh0_10, oh0_11, .ref h0_trials, .ref h0_registers])), (h0_trials, .inr (7, [.int (0 : Int32), oh0_trials_1, oh0_trials_2])), (h0_registers, .inr (4, [.int v_registers_count, oh0_registers_1, oh0_registers_2, oh0_registers_3]))] H := hP
  have hD : va_D A [(h0, .inr (8, [oh0_0, oh0_1, oh0_2, oh0_3, oh0_4, oh0_5, oh0_6, oh0_7, oh0_8, oh0_9, oh0_10, oh0_11, .ref h0_trials, .ref h0_registers])), (h0_trials, .inr (7, [.int (0 : Int32), oh0_trials_1, oh0_trials_2])), (h0_registers, .inr (4, [.int v_registers_count, oh0_registers_1, oh0_registers_2, oh0_registers_3]))] := hD
  refine lv_aload_n hx hb dX8_tear_24 rfl (lv_at hl 1 rfl) ?_
  refine va_get (D := D) (ci := 8) (v := .ref h0_registers) (C := RX8) (T := TX8) (N := 14) hx hb hts iX8 hown hK hP 0 rfl rfl 13 (by decide) k81 (fun _ h9 => h9) rfl dX8_tear_25 ?_
  refine lv_iconst (v := 0) hx hb dX8_tear_28 (by decide) ?_
  refine va_put (D := D) (ci := 4) (v := .int (0 : Int32)) (ty := .int) (C := RX4) (T := TX4) (N := 4) hx hb hts iX4 tyX4 tyX4_ok nmX4 hown hK hP hD hS 2 rfl rfl 0 (by decide) k109 (fun _ h9 => h9) rfl (by decide +kernel) rfl rfl (Nat.le_of_ble_eq_true rfl) dX8_tear_29 (fun H locs hP hD hS => ?_)
  have hP : va_P D vwCl [(h0, .inr (8, [oh0_0, oh0_1, oh0_2, oh0_3, oh0_4, oh0_5, oh0_6, oh0_7, oh0_8, oh0_9, oh0_10, oh0_11, .ref h0_trials, .ref h0_registers])), (h0_trials, .inr (7, [.int (0 : Int32), oh0_trials_1, oh0_trials_2])), (h0_registers, .inr (4, [.int (0 : Int32), oh0_registers_1, oh0_registers_2, oh0_registers_3]))] H := hP
  have hD : va_D A [(h0, .inr (8, [oh0_0, oh0_1, oh0_2, oh0_3, oh0_4, oh0_5, oh0_6, oh0_7, oh0_8, oh0_9, oh0_10, oh0_11, .ref h0_trials, .ref h0_registers])), (h0_trials, .inr (7, [.int (0 : Int32), oh0_trials_1, oh0_trials_2])), (h0_registers, .inr (4, [.int (0 : Int32), oh0_registers_1, oh0_registers_2, oh0_registers_3]))] := hD
  refine lv_iload_n hx hb dX8_tear_32 rfl (lv_at hl 0 rfl) ?_
  obtain ⟨rfl, rfl, rfl⟩ := si3 hM
  exact hret _ _ _ _ _ dX8_tear_33 rfl rfl hP hD hS

-- ===== X8_seed seed (I)I =====
abbrev r8_seed : Room := { frames := 0, cells := 0, slots := 0, locals := 0 }
def f8_seed (N : Nat) (p1 : Int32) (v_folk_drawSeed : Int32) : Option (Int32 × Int32) :=
  if (0 : Int32) ≤ p1 then (some (v_folk_drawSeed, p1)) else (some ((-1000000002 : Int32), v_folk_drawSeed))
set_option maxHeartbeats 4000000 in
set_option maxRecDepth 100000 in
theorem c8_seed (l : Launch) (D : va_G) (cy : Nat → ClassId) (N : Nat) (h0 h0_folk : Nat) (oh0_0 oh0_1 oh0_2 oh0_3 oh0_4 oh0_5 oh0_6 oh0_8 oh0_9 oh0_10 oh0_11 oh0_12 oh0_13 oh0_folk_0 oh0_folk_1 oh0_folk_3 oh0_folk_4 oh0_folk_5 : Value) (p1 : Int32) (v_folk_drawSeed : Int32) (r : Int32) (nv_folk_drawSeed : Int32) (hM : f8_seed N p1 v_folk_drawSeed = some (r, nv_folk_drawSeed)) (sz : Nat) : CTi l yX8_seed wsX8_seed r8_seed [.ref h0, .int p1] D cy sz [(h0, .inr (8, [oh0_0, oh0_1, oh0_2, oh0_3, oh0_4, oh0_5, oh0_6, .ref h0_folk, oh0_8, oh0_9, oh0_10, oh0_11, oh0_12, oh0_13])), (h0_folk, .inr (2, [oh0_folk_0, oh0_folk_1, .int v_folk_drawSeed, oh0_folk_3, oh0_folk_4, oh0_folk_5]))] [(h0, .inr (8, [oh0_0, oh0_1, oh0_2, oh0_3, oh0_4, oh0_5, oh0_6, .ref h0_folk, oh0_8, oh0_9, oh0_10, oh0_11, oh0_12, oh0_13])), (h0_folk, .inr (2, [oh0_folk_0, oh0_folk_1, .int nv_folk_drawSeed, oh0_folk_3, oh0_folk_4, oh0_folk_5]))] r := by
  unfold f8_seed at hM
  refine ct_oi (cc := cX8_seed) (maxL := 3) (ty := .int) (by decide +kernel) rfl (Nat.le_of_ble_eq_true rfl) (lv0 := [(0, .ref h0), (1, .int p1)]) rfl ?_
  intro p e s m args below meth c A Q ls hx hb hts hown hml hK hP hD hS hA hret hl
  have hown : s.vm.findClass RX8 = some m.cls := hown
  have k47 := hts (.fieldLink RX8 47 "CaveYears" "folk" "LCaveYears$Folk;") (List.mem_of_getElem? (i := 2) (by decide +kernel))
  have iX8 := (fun w h => (List.mem_cons_of_mem _ (List.mem_append_left _ (List.mem_append_right _ h))) : ∀ w ∈ wsX80, w ∈ wsX8_seed)
  have k250 := hts (.fieldLink RX8 250 "CaveYears$Folk" "drawSeed" "I") (List.mem_of_getElem? (i := 3) (by decide +kernel))
  have iX2 := (fun w h => (List.mem_cons_of_mem _ (List.mem_append_right _ h)) : ∀ w ∈ wsX20, w ∈ wsX8_seed)
  have k85 := hts (.constant RX8 85 (-1000000002)) (List.mem_of_getElem? (i := 1) (by decide +kernel))
  refine lv_iload_n hx hb dX8_seed_0 rfl (lv_at hl 1 rfl) ?_
  refine lv_if_ge (tgt := 7) hx hb dX8_seed_1 (by decide) (fun c1 => ?_) (fun c1 => ?_)
  · have hM := g_pos c1 hM
    refine lv_aload_n hx hb dX8_seed_7 rfl (lv_at hl 0 rfl) ?_
    refine va_get (D := D) (ci := 8) (v := .ref h0_folk) (C := RX8) (T := TX8) (N := 14) hx hb hts iX8 hown hK hP 0 rfl rfl 7 (by decide) k47 (fun _ h9 => h9) rfl dX8_seed_8 ?_
    refine va_get (D := D) (ci := 2) (v := .int v_folk_drawSeed) (C := RX2) (T := TX2) (N := 6) hx hb hts iX2 hown hK hP 1 rfl rfl 2 (by decide) k250 (fun _ h9 => h9) rfl dX8_seed_11 ?_
    refine lv_istore_n (lv' := [(2, .int v_folk_drawSeed), (0, .ref h0), (1, .int p1)]) hx hb dX8_seed_14 rfl hl (by decide) rfl (fun ls hl => ?_)
    refine lv_aload_n hx hb dX8_seed_15 rfl (lv_at hl 1 rfl) ?_
    refine va_get (D := D) (ci := 8) (v := .ref h0_folk) (C := RX8) (T := TX8) (N := 14) hx hb hts iX8 hown hK hP 0 rfl rfl 7 (by decide) k47 (fun _ h9 => h9) rfl dX8_seed_16 ?_
    refine lv_iload_n hx hb dX8_seed_19 rfl (lv_at hl 2 rfl) ?_
    refine va_put (D := D) (ci := 2) (v := .int p1) (ty := .int) (C := RX2) (T := TX2) (N := 6) hx hb hts iX2 tyX2 tyX2_ok nmX2 hown hK hP hD hS 1 rfl rfl 2 (by decide) k250 (fun _ h9 => h9) rfl (by decide +kernel) rfl rfl (Nat.le_of_ble_eq_true rfl) dX8_seed_20 (fun H locs hP hD hS => ?_)
    have hP : va_P D vwCl [(h0, .inr (8, [oh0_0, oh0_1, oh0_2, oh0_3, oh0_4, oh0_5, oh0_6, .ref h0_folk, oh0_8, oh0_9, oh0_10, oh0_11, oh0_12, oh0_13])), (h0_folk, .inr (2, [oh0_folk_0, oh0_folk_1, .int p1, oh0_folk_3, oh0_folk_4, oh0_folk_5]))] H := hP
    have hD : va_D A [(h0, .inr (8, [oh0_0, oh0_1, oh0_2, oh0_3, oh0_4, oh0_5, oh0_6, .ref h0_folk, oh0_8, oh0_9, oh0_10, oh0_11, oh0_12, oh0_13])), (h0_folk, .inr (2, [oh0_folk_0, oh0_folk_1, .int p1, oh0_folk_3, oh0_folk_4, oh0_folk_5]))] := hD
    refine lv_iload_n hx hb dX8_seed_23 rfl (lv_at hl 0 rfl) ?_
    obtain ⟨rfl, rfl⟩ := si2 hM
    exact hret _ _ _ _ _ dX8_seed_24 rfl rfl hP hD hS
  · have hM := g_neg c1 hM
    refine lv_ldc (v := -1000000002) hx hb hown k85 dX8_seed_4 ?_
    obtain ⟨rfl, rfl⟩ := si2 hM
    exact hret _ _ _ _ _ dX8_seed_6 rfl rfl hP hD hS

-- ===== X8_keep keep (I)I =====
abbrev r8_keep : Room := { frames := 1, cells := 0, slots := 0, locals := 22 }
def f8_keep (N : Nat) (p1 : Int32) (v_folk_date : Int32) (v_folk_drawSeed : Int32) (v_folk_age : Nat → Int32) (v_folk_riches : Nat → Int32) (v_folk_out : Nat → Int32) (v_firstImage_kept : Int32) (v_firstImage_date : Int32) (v_firstImage_drawSeed : Int32) (v_firstImage_age : Nat → Int32) (v_firstImage_riches : Nat → Int32) (v_firstImage_out : Nat → Int32) (v_secondImage_kept : Int32) (v_secondImage_date : Int32) (v_secondImage_drawSeed : Int32) (v_secondImage_age : Nat → Int32) (v_secondImage_riches : Nat → Int32) (v_secondImage_out : Nat → Int32) : Option (Int32 × Int32 × Int32 × Int32 × (Nat → Int32) × (Nat → Int32) × (Nat → Int32) × Int32 × Int32 × Int32 × (Nat → Int32) × (Nat → Int32) × (Nat → Int32)) :=
  if p1 < (0 : Int32) then (some ((-1000000001 : Int32), v_firstImage_kept, v_firstImage_date, v_firstImage_drawSeed, v_firstImage_age, v_firstImage_riches, v_firstImage_out, v_secondImage_kept, v_secondImage_date, v_secondImage_drawSeed, v_secondImage_age, v_secondImage_riches, v_secondImage_out)) else (if p1 ≤ (1 : Int32) then (if p1 = (0 : Int32) then (ob5 (f2_copyFrom N v_firstImage_date v_firstImage_drawSeed v_firstImage_age v_firstImage_riches v_firstImage_out v_folk_date v_folk_drawSeed v_folk_age v_folk_riches v_folk_out) fun v_firstImage_date_33 v_firstImage_drawSeed_33 v_firstImage_age_33 v_firstImage_riches_33 v_firstImage_out_33 => some ((1 : Int32), (1 : Int32), v_firstImage_date_33, v_firstImage_drawSeed_33, v_firstImage_age_33, v_firstImage_riches_33, v_firstImage_out_33, v_secondImage_kept, v_secondImage_date, v_secondImage_drawSeed, v_secondImage_age, v_secondImage_riches, v_secondImage_out)) else (ob5 (f2_copyFrom N v_secondImage_date v_secondImage_drawSeed v_secondImage_age v_secondImage_riches v_secondImage_out v_folk_date v_folk_drawSeed v_folk_age v_folk_riches v_folk_out) fun v_secondImage_date_33 v_secondImage_drawSeed_33 v_secondImage_age_33 v_secondImage_riches_33 v_secondImage_out_33 => some ((1 : Int32), v_firstImage_kept, v_firstImage_date, v_firstImage_drawSeed, v_firstImage_age, v_firstImage_riches, v_firstImage_out, (1 : Int32), v_secondImage_date_33, v_secondImage_drawSeed_33, v_secondImage_age_33, v_secondImage_riches_33, v_secondImage_out_33))) else (some ((-1000000001 : Int32), v_firstImage_kept, v_firstImage_date, v_firstImage_drawSeed, v_firstImage_age, v_firstImage_riches, v_firstImage_out, v_secondImage_kept, v_secondImage_date, v_secondImage_drawSeed, v_secondImage_age, v_secondImage_riches, v_secondImage_out)))
set_option maxHeartbeats 4000000 in
set_option maxRecDepth 100000 in
theorem c8_keep (l : Launch) (D : va_G) (cy : Nat → ClassId) (N : Nat) (h0 h0_folk h0_folk_age h0_folk_riches h0_folk_out h0_firstImage h0_firstImage_age h0_firstImage_riches h0_firstImage_out h0_secondImage h0_secondImage_age h0_secondImage_riches h0_secondImage_out : Nat) (oh0_0 oh0_1 oh0_2 oh0_3 oh0_4 oh0_5 oh0_6 oh0_10 oh0_11 oh0_12 oh0_13 oh0_folk_0 : Value) (p1 : Int32) (v_folk_date : Int32) (v_folk_drawSeed : Int32) (v_folk_age : Nat → Int32) (v_folk_riches : Nat → Int32) (v_folk_out : Nat → Int32) (v_firstImage_kept : Int32) (v_firstImage_date : Int32) (v_firstImage_drawSeed : Int32) (v_firstImage_age : Nat → Int32) (v_firstImage_riches : Nat → Int32) (v_firstImage_out : Nat → Int32) (v_secondImage_kept : Int32) (v_secondImage_date : Int32) (v_secondImage_drawSeed : Int32) (v_secondImage_age : Nat → Int32) (v_secondImage_riches : Nat → Int32) (v_secondImage_out : Nat → Int32) (r : Int32) (nv_firstImage_kept : Int32) (nv_firstImage_date : Int32) (nv_firstImage_drawSeed : Int32) (nv_firstImage_age : Nat → Int32) (nv_firstImage_riches : Nat → Int32) (nv_firstImage_out : Nat → Int32) (nv_secondImage_kept : Int32) (nv_secondImage_date : Int32) (nv_secondImage_drawSeed : Int32) (nv_secondImage_age : Nat → Int32) (nv_secondImage_riches : Nat → Int32) (nv_secondImage_out : Nat → Int32) (hM : f8_keep N p1 v_folk_date v_folk_drawSeed v_folk_age v_folk_riches v_folk_out v_firstImage_kept v_firstImage_date v_firstImage_drawSeed v_firstImage_age v_firstImage_riches v_firstImage_out v_secondImage_kept v_secondImage_date v_secondImage_drawSeed v_secondImage_age v_secondImage_riches v_secondImage_out = some (r, nv_firstImage_kept, nv_firstImage_date, nv_firstImage_drawSeed, nv_firstImage_age, nv_firstImage_riches, nv_firstImage_out, nv_secondImage_kept, nv_secondImage_date, nv_secondImage_drawSeed, nv_secondImage_age, nv_secondImage_riches, nv_secondImage_out)) (sz : Nat) : CTi l yX8_keep wsX8_keep r8_keep [.ref h0, .int p1] D cy sz [(h0, .inr (8, [oh0_0, oh0_1, oh0_2, oh0_3, oh0_4, oh0_5, oh0_6, .ref h0_folk, .ref h0_firstImage, .ref h0_secondImage, oh0_10, oh0_11, oh0_12, oh0_13])), (h0_folk, .inr (2, [oh0_folk_0, .int v_folk_date, .int v_folk_drawSeed, .ref h0_folk_age, .ref h0_folk_riches, .ref h0_folk_out])), (h0_folk_age, .inl (cy 2, 6, .inl v_folk_age)), (h0_folk_riches, .inl (cy 2, 6, .inl v_folk_riches)), (h0_folk_out, .inl (cy 2, 6, .inl v_folk_out)), (h0_firstImage, .inr (2, [.int v_firstImage_kept, .int v_firstImage_date, .int v_firstImage_drawSeed, .ref h0_firstImage_age, .ref h0_firstImage_riches, .ref h0_firstImage_out])), (h0_firstImage_age, .inl (cy 2, 6, .inl v_firstImage_age)), (h0_firstImage_riches, .inl (cy 2, 6, .inl v_firstImage_riches)), (h0_firstImage_out, .inl (cy 2, 6, .inl v_firstImage_out)), (h0_secondImage, .inr (2, [.int v_secondImage_kept, .int v_secondImage_date, .int v_secondImage_drawSeed, .ref h0_secondImage_age, .ref h0_secondImage_riches, .ref h0_secondImage_out])), (h0_secondImage_age, .inl (cy 2, 6, .inl v_secondImage_age)), (h0_secondImage_riches, .inl (cy 2, 6, .inl v_secondImage_riches)), (h0_secondImage_out, .inl (cy 2, 6, .inl v_secondImage_out))] [(h0, .inr (8, [oh0_0, oh0_1, oh0_2, oh0_3, oh0_4, oh0_5, oh0_6, .ref h0_folk, .ref h0_firstImage, .ref h0_secondImage, oh0_10, oh0_11, oh0_12, oh0_13])), (h0_folk, .inr (2, [oh0_folk_0, .int v_folk_date, .int v_folk_drawSeed, .ref h0_folk_age, .ref h0_folk_riches, .ref h0_folk_out])), (h0_folk_age, .inl (cy 2, 6, .inl v_folk_age)), (h0_folk_riches, .inl (cy 2, 6, .inl v_folk_riches)), (h0_folk_out, .inl (cy 2, 6, .inl v_folk_out)), (h0_firstImage, .inr (2, [.int nv_firstImage_kept, .int nv_firstImage_date, .int nv_firstImage_drawSeed, .ref h0_firstImage_age, .ref h0_firstImage_riches, .ref h0_firstImage_out])), (h0_firstImage_age, .inl (cy 2, 6, .inl nv_firstImage_age)), (h0_firstImage_riches, .inl (cy 2, 6, .inl nv_firstImage_riches)), (h0_firstImage_out, .inl (cy 2, 6, .inl nv_firstImage_out)), (h0_secondImage, .inr (2, [.int nv_secondImage_kept, .int nv_secondImage_date, .int nv_secondImage_drawSeed, .ref h0_secondImage_age, .ref h0_secondImage_riches, .ref h0_secondImage_out])), (h0_secondImage_age, .inl (cy 2, 6, .inl nv_secondImage_age)), (h0_secondImage_riches, .inl (cy 2, 6, .inl nv_secondImage_riches)), (h0_secondImage_out, .inl (cy 2, 6, .inl nv_secondImage_out))] r := by
  unfold f8_keep at hM
  refine ct_oi (cc := cX8_keep) (maxL := 3) (ty := .int) (by decide +kernel) rfl (Nat.le_of_ble_eq_true rfl) (lv0 := [(0, .ref h0), (1, .int p1)]) rfl ?_
  intro p e s m args below meth c A Q ls hx hb hts hown hml hK hP hD hS hA hret hl
  have hown : s.vm.findClass RX8 = some m.cls := hown
  have k140 := hts (.constant RX8 140 (-1000000001)) (List.mem_of_getElem? (i := 1) (by decide +kernel))
  have k54 := hts (.fieldLink RX8 54 "CaveYears" "secondImage" "LCaveYears$Folk;") (List.mem_of_getElem? (i := 3) (by decide +kernel))
  have iX8 := (fun w h => (List.mem_cons_of_mem _ (List.mem_append_left _ (List.mem_append_right _ h))) : ∀ w ∈ wsX80, w ∈ wsX8_keep)
  have k47 := hts (.fieldLink RX8 47 "CaveYears" "folk" "LCaveYears$Folk;") (List.mem_of_getElem? (i := 4) (by decide +kernel))
  have k101 := hts (.fieldLink RX8 101 "CaveYears$Folk" "kept" "Z") (List.mem_of_getElem? (i := 5) (by decide +kernel))
  have iX2 := (fun w h => (List.mem_cons_of_mem _ (List.mem_append_right _ h)) : ∀ w ∈ wsX20, w ∈ wsX8_keep)
  have k51 := hts (.fieldLink RX8 51 "CaveYears" "firstImage" "LCaveYears$Folk;") (List.mem_of_getElem? (i := 2) (by decide +kernel))
  refine lv_iload_n hx hb dX8_keep_0 rfl (lv_at hl 1 rfl) ?_
  refine lv_if_lt (tgt := 9) hx hb dX8_keep_1 (by decide) (fun c1 => ?_) (fun c1 => ?_)
  · have hM := g_pos c1 hM
    refine lv_ldc (v := -1000000001) hx hb hown k140 dX8_keep_9 ?_
    obtain ⟨rfl, rfl, rfl, rfl, rfl, rfl, rfl, rfl, rfl, rfl, rfl, rfl, rfl⟩ := si13 hM
    exact hret _ _ _ _ _ dX8_keep_11 rfl rfl hP hD hS
  · have hM := g_neg c1 hM
    refine lv_iload_n hx hb dX8_keep_4 rfl (lv_at hl 1 rfl) ?_
    refine lv_iconst (v := 1) hx hb dX8_keep_5 (by decide) ?_
    refine lv_icmp_le (tgt := 12) hx hb dX8_keep_6 (by decide) (fun c6 => ?_) (fun c6 => ?_)
    · have hM := g_pos c6 hM
      refine lv_iload_n hx hb dX8_keep_12 rfl (lv_at hl 1 rfl) ?_
      refine lv_if_ne (tgt := 23) hx hb dX8_keep_13 (by decide) (fun c13 => ?_) (fun c13 => ?_)
      · have hM := g_neg c13 hM
        refine lv_aload_n hx hb dX8_keep_23 rfl (lv_at hl 0 rfl) ?_
        refine va_get (D := D) (ci := 8) (v := .ref h0_secondImage) (C := RX8) (T := TX8) (N := 14) hx hb hts iX8 hown hK hP 0 rfl rfl 9 (by decide) k54 (fun _ h9 => h9) rfl dX8_keep_24 ?_
        refine lv_astore_n (lv' := [(2, .ref h0_secondImage), (0, .ref h0), (1, .int p1)]) hx hb dX8_keep_27 rfl hl (by decide) rfl (fun ls hl => ?_)
        refine lv_aload_n hx hb dX8_keep_28 rfl (lv_at hl 0 rfl) ?_
        refine lv_aload_n hx hb dX8_keep_29 rfl (lv_at hl 1 rfl) ?_
        refine va_get (D := D) (ci := 8) (v := .ref h0_folk) (C := RX8) (T := TX8) (N := 14) hx hb hts iX8 hown hK hP 0 rfl rfl 7 (by decide) k47 (fun _ h9 => h9) rfl dX8_keep_30 ?_
        obtain ⟨v_secondImage_date_33, v_secondImage_drawSeed_33, v_secondImage_age_33, v_secondImage_riches_33, v_secondImage_out_33, hc33, hM⟩ := ob5_some hM
        refine cl_vv (As := [.ref h0_folk]) (rest := []) (ci := 2) (q0 := 9) (wr := [(h0, .inr (8, [oh0_0, oh0_1, oh0_2, oh0_3, oh0_4, oh0_5, oh0_6, .ref h0_folk, .ref h0_firstImage, .ref h0_secondImage, oh0_10, oh0_11, oh0_12, oh0_13])), (h0_firstImage, .inr (2, [.int v_firstImage_kept, .int v_firstImage_date, .int v_firstImage_drawSeed, .ref h0_firstImage_age, .ref h0_firstImage_riches, .ref h0_firstImage_out])), (h0_firstImage_age, .inl (cy 2, 6, .inl v_firstImage_age)), (h0_firstImage_riches, .inl (cy 2, 6, .inl v_firstImage_riches)), (h0_firstImage_out, .inl (cy 2, 6, .inl v_firstImage_out))]) (ws2 := [(h0, .inr (8, [oh0_0, oh0_1, oh0_2, oh0_3, oh0_4, oh0_5, oh0_6, .ref h0_folk, .ref h0_firstImage, .ref h0_secondImage, oh0_10, oh0_11, oh0_12, oh0_13])), (h0_folk, .inr (2, [oh0_folk_0, .int v_folk_date, .int v_folk_drawSeed, .ref h0_folk_age, .ref h0_folk_riches, .ref h0_folk_out])), (h0_folk_age, .inl (cy 2, 6, .inl v_folk_age)), (h0_folk_riches, .inl (cy 2, 6, .inl v_folk_riches)), (h0_folk_out, .inl (cy 2, 6, .inl v_folk_out)), (h0_firstImage, .inr (2, [.int v_firstImage_kept, .int v_firstImage_date, .int v_firstImage_drawSeed, .ref h0_firstImage_age, .ref h0_firstImage_riches, .ref h0_firstImage_out])), (h0_firstImage_age, .inl (cy 2, 6, .inl v_firstImage_age)), (h0_firstImage_riches, .inl (cy 2, 6, .inl v_firstImage_riches)), (h0_firstImage_out, .inl (cy 2, 6, .inl v_firstImage_out)), (h0_secondImage, .inr (2, [.int v_secondImage_kept, .int v_secondImage_date_33, .int v_secondImage_drawSeed_33, .ref h0_secondImage_age, .ref h0_secondImage_riches, .ref h0_secondImage_out])), (h0_secondImage_age, .inl (cy 2, 6, .inl v_secondImage_age_33)), (h0_secondImage_riches, .inl (cy 2, 6, .inl v_secondImage_riches_33)), (h0_secondImage_out, .inl (cy 2, 6, .inl v_secondImage_out_33))]) (isC := [9, 10, 11, 12, 1, 2, 3, 4]) (isR := [0, 5, 6, 7, 8]) (pm := [0, 9, 10, 11, 12, 1, 2, 3, 4, 5, 6, 7, 8]) hx hb hml hown hts (c2_copyFrom l D cy N h0_secondImage h0_secondImage_age h0_secondImage_riches h0_secondImage_out h0_folk h0_folk_age h0_folk_riches h0_folk_out (.int v_secondImage_kept) oh0_folk_0 v_secondImage_date v_secondImage_drawSeed v_secondImage_age v_secondImage_riches v_secondImage_out v_folk_date v_folk_drawSeed v_folk_age v_folk_riches v_folk_out v_secondImage_date_33 v_secondImage_drawSeed_33 v_secondImage_age_33 v_secondImage_riches_33 v_secondImage_out_33 hc33) (cwV 1 hts gX8_keep_X2_copyFrom rfl rfl rfl (by decide +kernel) ⟨Nat.le_of_ble_eq_true rfl, Nat.le_of_ble_eq_true rfl⟩) hK hP hD hS hA rfl rfl rfl rfl rfl (by decide) rfl rfl rfl hl.1 (Nat.le_of_ble_eq_true rfl) dX8_keep_33 ⟨Nat.zero_le _, Nat.zero_le _⟩ rfl rfl (fun H locs hP hD hS => ?_)
        refine lv_aload_n hx hb dX8_keep_36 rfl (lv_at hl 0 rfl) ?_
        refine lv_iconst (v := 1) hx hb dX8_keep_37 (by decide) ?_
        refine va_put (D := D) (ci := 2) (v := .int (1 : Int32)) (ty := .boolean) (C := RX2) (T := TX2) (N := 6) hx hb hts iX2 tyX2 tyX2_ok nmX2 hown hK hP hD hS 9 rfl rfl 0 (by decide) k101 (fun _ h9 => h9) rfl (by decide +kernel) rfl rfl (Nat.le_of_ble_eq_true rfl) dX8_keep_38 (fun H locs hP hD hS => ?_)
        have hP : va_P D vwCl [(h0, .inr (8, [oh0_0, oh0_1, oh0_2, oh0_3, oh0_4, oh0_5, oh0_6, .ref h0_folk, .ref h0_firstImage, .ref h0_secondImage, oh0_10, oh0_11, oh0_12, oh0_13])), (h0_folk, .inr (2, [oh0_folk_0, .int v_folk_date, .int v_folk_drawSeed, .ref h0_folk_age, .ref h0_folk_riches, .ref h0_folk_out])), (h0_folk_age, .inl (cy 2, 6, .inl v_folk_age)), (h0_folk_riches, .inl (cy 2, 6, .inl v_folk_riches)), (h0_folk_out, .inl (cy 2, 6, .inl v_folk_out)), (h0_firstImage, .inr (2, [.int v_firstImage_kept, .int v_firstImage_date, .int v_firstImage_drawSeed, .ref h0_firstImage_age, .ref h0_firstImage_riches, .ref h0_firstImage_out])), (h0_firstImage_age, .inl (cy 2, 6, .inl v_firstImage_age)), (h0_firstImage_riches, .inl (cy 2, 6, .inl v_firstImage_riches)), (h0_firstImage_out, .inl (cy 2, 6, .inl v_firstImage_out)), (h0_secondImage, .inr (2, [.int (1 : Int32), .int v_secondImage_date_33, .int v_secondImage_drawSeed_33, .ref h0_secondImage_age, .ref h0_secondImage_riches, .ref h0_secondImage_out])), (h0_secondImage_age, .inl (cy 2, 6, .inl v_secondImage_age_33)), (h0_secondImage_riches, .inl (cy 2, 6, .inl v_secondImage_riches_33)), (h0_secondImage_out, .inl (cy 2, 6, .inl v_secondImage_out_33))] H := hP
        have hD : va_D A [(h0, .inr (8, [oh0_0, oh0_1, oh0_2, oh0_3, oh0_4, oh0_5, oh0_6, .ref h0_folk, .ref h0_firstImage, .ref h0_secondImage, oh0_10, oh0_11, oh0_12, oh0_13])), (h0_folk, .inr (2, [oh0_folk_0, .int v_folk_date, .int v_folk_drawSeed, .ref h0_folk_age, .ref h0_folk_riches, .ref h0_folk_out])), (h0_folk_age, .inl (cy 2, 6, .inl v_folk_age)), (h0_folk_riches, .inl (cy 2, 6, .inl v_folk_riches)), (h0_folk_out, .inl (cy 2, 6, .inl v_folk_out)), (h0_firstImage, .inr (2, [.int v_firstImage_kept, .int v_firstImage_date, .int v_firstImage_drawSeed, .ref h0_firstImage_age, .ref h0_firstImage_riches, .ref h0_firstImage_out])), (h0_firstImage_age, .inl (cy 2, 6, .inl v_firstImage_age)), (h0_firstImage_riches, .inl (cy 2, 6, .inl v_firstImage_riches)), (h0_firstImage_out, .inl (cy 2, 6, .inl v_firstImage_out)), (h0_secondImage, .inr (2, [.int (1 : Int32), .int v_secondImage_date_33, .int v_secondImage_drawSeed_33, .ref h0_secondImage_age, .ref h0_secondImage_riches, .ref h0_secondImage_out])), (h0_secondImage_age, .inl (cy 2, 6, .inl v_secondImage_age_33)), (h0_secondImage_riches, .inl (cy 2, 6, .inl v_secondImage_riches_33)), (h0_secondImage_out, .inl (cy 2, 6, .inl v_secondImage_out_33))] := hD
        refine lv_iconst (v := 1) hx hb dX8_keep_41 (by decide) ?_
        obtain ⟨rfl, rfl, rfl, rfl, rfl, rfl, rfl, rfl, rfl, rfl, rfl, rfl, rfl⟩ := si13 hM
        exact hret _ _ _ _ _ dX8_keep_42 rfl rfl hP hD hS
      · have hM := g_pos c13 hM
        refine lv_aload_n hx hb dX8_keep_16 rfl (lv_at hl 0 rfl) ?_
        refine va_get (D := D) (ci := 8) (v := .ref h0_firstImage) (C := RX8) (T := TX8) (N := 14) hx hb hts iX8 hown hK hP 0 rfl rfl 8 (by decide) k51 (fun _ h9 => h9) rfl dX8_keep_17 ?_
        refine lv_goto (tgt := 27) hx hb dX8_keep_20 (by decide) ?_
        refine lv_astore_n (lv' := [(2, .ref h0_firstImage), (0, .ref h0), (1, .int p1)]) hx hb dX8_keep_27 rfl hl (by decide) rfl (fun ls hl => ?_)
        refine lv_aload_n hx hb dX8_keep_28 rfl (lv_at hl 0 rfl) ?_
        refine lv_aload_n hx hb dX8_keep_29 rfl (lv_at hl 1 rfl) ?_
        refine va_get (D := D) (ci := 8) (v := .ref h0_folk) (C := RX8) (T := TX8) (N := 14) hx hb hts iX8 hown hK hP 0 rfl rfl 7 (by decide) k47 (fun _ h9 => h9) rfl dX8_keep_30 ?_
        obtain ⟨v_firstImage_date_33, v_firstImage_drawSeed_33, v_firstImage_age_33, v_firstImage_riches_33, v_firstImage_out_33, hc33, hM⟩ := ob5_some hM
        refine cl_vv (As := [.ref h0_folk]) (rest := []) (ci := 2) (q0 := 5) (wr := [(h0, .inr (8, [oh0_0, oh0_1, oh0_2, oh0_3, oh0_4, oh0_5, oh0_6, .ref h0_folk, .ref h0_firstImage, .ref h0_secondImage, oh0_10, oh0_11, oh0_12, oh0_13])), (h0_secondImage, .inr (2, [.int v_secondImage_kept, .int v_secondImage_date, .int v_secondImage_drawSeed, .ref h0_secondImage_age, .ref h0_secondImage_riches, .ref h0_secondImage_out])), (h0_secondImage_age, .inl (cy 2, 6, .inl v_secondImage_age)), (h0_secondImage_riches, .inl (cy 2, 6, .inl v_secondImage_riches)), (h0_secondImage_out, .inl (cy 2, 6, .inl v_secondImage_out))]) (ws2 := [(h0, .inr (8, [oh0_0, oh0_1, oh0_2, oh0_3, oh0_4, oh0_5, oh0_6, .ref h0_folk, .ref h0_firstImage, .ref h0_secondImage, oh0_10, oh0_11, oh0_12, oh0_13])), (h0_folk, .inr (2, [oh0_folk_0, .int v_folk_date, .int v_folk_drawSeed, .ref h0_folk_age, .ref h0_folk_riches, .ref h0_folk_out])), (h0_folk_age, .inl (cy 2, 6, .inl v_folk_age)), (h0_folk_riches, .inl (cy 2, 6, .inl v_folk_riches)), (h0_folk_out, .inl (cy 2, 6, .inl v_folk_out)), (h0_firstImage, .inr (2, [.int v_firstImage_kept, .int v_firstImage_date_33, .int v_firstImage_drawSeed_33, .ref h0_firstImage_age, .ref h0_firstImage_riches, .ref h0_firstImage_out])), (h0_firstImage_age, .inl (cy 2, 6, .inl v_firstImage_age_33)), (h0_firstImage_riches, .inl (cy 2, 6, .inl v_firstImage_riches_33)), (h0_firstImage_out, .inl (cy 2, 6, .inl v_firstImage_out_33)), (h0_secondImage, .inr (2, [.int v_secondImage_kept, .int v_secondImage_date, .int v_secondImage_drawSeed, .ref h0_secondImage_age, .ref h0_secondImage_riches, .ref h0_secondImage_out])), (h0_secondImage_age, .inl (cy 2, 6, .inl v_secondImage_age)), (h0_secondImage_riches, .inl (cy 2, 6, .inl v_secondImage_riches)), (h0_secondImage_out, .inl (cy 2, 6, .inl v_secondImage_out))]) (isC := [5, 6, 7, 8, 1, 2, 3, 4]) (isR := [0, 9, 10, 11, 12]) (pm := [0, 9, 10, 11, 12, 5, 6, 7, 8, 1, 2, 3, 4]) hx hb hml hown hts (c2_copyFrom l D cy N h0_firstImage h0_firstImage_age h0_firstImage_riches h0_firstImage_out h0_folk h0_folk_age h0_folk_riches h0_folk_out (.int v_firstImage_kept) oh0_folk_0 v_firstImage_date v_firstImage_drawSeed v_firstImage_age v_firstImage_riches v_firstImage_out v_folk_date v_folk_drawSeed v_folk_age v_folk_riches v_folk_out v_firstImage_date_33 v_firstImage_drawSeed_33 v_firstImage_age_33 v_firstImage_riches_33 v_firstImage_out_33 hc33) (cwV 1 hts gX8_keep_X2_copyFrom rfl rfl rfl (by decide +kernel) ⟨Nat.le_of_ble_eq_true rfl, Nat.le_of_ble_eq_true rfl⟩) hK hP hD hS hA rfl rfl rfl rfl rfl (by decide) rfl rfl rfl hl.1 (Nat.le_of_ble_eq_true rfl) dX8_keep_33 ⟨Nat.zero_le _, Nat.zero_le _⟩ rfl rfl (fun H locs hP hD hS => ?_)
        refine lv_aload_n hx hb dX8_keep_36 rfl (lv_at hl 0 rfl) ?_
        refine lv_iconst (v := 1) hx hb dX8_keep_37 (by decide) ?_
        refine va_put (D := D) (ci := 2) (v := .int (1 : Int32)) (ty := .boolean) (C := RX2) (T := TX2) (N := 6) hx hb hts iX2 tyX2 tyX2_ok nmX2 hown hK hP hD hS 5 rfl rfl 0 (by decide) k101 (fun _ h9 => h9) rfl (by decide +kernel) rfl rfl (Nat.le_of_ble_eq_true rfl) dX8_keep_38 (fun H locs hP hD hS => ?_)
        have hP : va_P D vwCl [(h0, .inr (8, [oh0_0, oh0_1, oh0_2, oh0_3, oh0_4, oh0_5, oh0_6, .ref h0_folk, .ref h0_firstImage, .ref h0_secondImage, oh0_10, oh0_11, oh0_12, oh0_13])), (h0_folk, .inr (2, [oh0_folk_0, .int v_folk_date, .int v_folk_drawSeed, .ref h0_folk_age, .ref h0_folk_riches, .ref h0_folk_out])), (h0_folk_age, .inl (cy 2, 6, .inl v_folk_age)), (h0_folk_riches, .inl (cy 2, 6, .inl v_folk_riches)), (h0_folk_out, .inl (cy 2, 6, .inl v_folk_out)), (h0_firstImage, .inr (2, [.int (1 : Int32), .int v_firstImage_date_33, .int v_firstImage_drawSeed_33, .ref h0_firstImage_age, .ref h0_firstImage_riches, .ref h0_firstImage_out])), (h0_firstImage_age, .inl (cy 2, 6, .inl v_firstImage_age_33)), (h0_firstImage_riches, .inl (cy 2, 6, .inl v_firstImage_riches_33)), (h0_firstImage_out, .inl (cy 2, 6, .inl v_firstImage_out_33)), (h0_secondImage, .inr (2, [.int v_secondImage_kept, .int v_secondImage_date, .int v_secondImage_drawSeed, .ref h0_secondImage_age, .ref h0_secondImage_riches, .ref h0_secondImage_out])), (h0_secondImage_age, .inl (cy 2, 6, .inl v_secondImage_age)), (h0_secondImage_riches, .inl (cy 2, 6, .inl v_secondImage_riches)), (h0_secondImage_out, .inl (cy 2, 6, .inl v_secondImage_out))] H := hP
        have hD : va_D A [(h0, .inr (8, [oh0_0, oh0_1, oh0_2, oh0_3, oh0_4, oh0_5, oh0_6, .ref h0_folk, .ref h0_firstImage, .ref h0_secondImage, oh0_10, oh0_11, oh0_12, oh0_13])), (h0_folk, .inr (2, [oh0_folk_0, .int v_folk_date, .int v_folk_drawSeed, .ref h0_folk_age, .ref h0_folk_riches, .ref h0_folk_out])), (h0_folk_age, .inl (cy 2, 6, .inl v_folk_age)), (h0_folk_riches, .inl (cy 2, 6, .inl v_folk_riches)), (h0_folk_out, .inl (cy 2, 6, .inl v_folk_out)), (h0_firstImage, .inr (2, [.int (1 : Int32), .int v_firstImage_date_33, .int v_firstImage_drawSeed_33, .ref h0_firstImage_age, .ref h0_firstImage_riches, .ref h0_firstImage_out])), (h0_firstImage_age, .inl (cy 2, 6, .inl v_firstImage_age_33)), (h0_firstImage_riches, .inl (cy 2, 6, .inl v_firstImage_riches_33)), (h0_firstImage_out, .inl (cy 2, 6, .inl v_firstImage_out_33)), (h0_secondImage, .inr (2, [.int v_secondImage_kept, .int v_secondImage_date, .int v_secondImage_drawSeed, .ref h0_secondImage_age, .ref h0_secondImage_riches, .ref h0_secondImage_out])), (h0_secondImage_age, .inl (cy 2, 6, .inl v_secondImage_age)), (h0_secondImage_riches, .inl (cy 2, 6, .inl v_secondImage_riches)), (h0_secondImage_out, .inl (cy 2, 6, .inl v_secondImage_out))] := hD
        refine lv_iconst (v := 1) hx hb dX8_keep_41 (by decide) ?_
        obtain ⟨rfl, rfl, rfl, rfl, rfl, rfl, rfl, rfl, rfl, rfl, rfl, rfl, rfl⟩ := si13 hM
        exact hret _ _ _ _ _ dX8_keep_42 rfl rfl hP hD hS
    · have hM := g_neg c6 hM
      refine lv_ldc (v := -1000000001) hx hb hown k140 dX8_keep_9 ?_
      obtain ⟨rfl, rfl, rfl, rfl, rfl, rfl, rfl, rfl, rfl, rfl, rfl, rfl, rfl⟩ := si13 hM
      exact hret _ _ _ _ _ dX8_keep_11 rfl rfl hP hD hS

-- ===== X8_goBack goBack (I)I =====
abbrev r8_goBack : Room := { frames := 1, cells := 0, slots := 0, locals := 22 }
def f8_goBack (N : Nat) (p1 : Int32) (v_folk_date : Int32) (v_folk_drawSeed : Int32) (v_folk_age : Nat → Int32) (v_folk_riches : Nat → Int32) (v_folk_out : Nat → Int32) (v_firstImage_kept : Int32) (v_firstImage_date : Int32) (v_firstImage_drawSeed : Int32) (v_firstImage_age : Nat → Int32) (v_firstImage_riches : Nat → Int32) (v_firstImage_out : Nat → Int32) (v_secondImage_kept : Int32) (v_secondImage_date : Int32) (v_secondImage_drawSeed : Int32) (v_secondImage_age : Nat → Int32) (v_secondImage_riches : Nat → Int32) (v_secondImage_out : Nat → Int32) : Option (Int32 × Int32 × Int32 × (Nat → Int32) × (Nat → Int32) × (Nat → Int32)) :=
  if p1 < (0 : Int32) then (some ((-1000000001 : Int32), v_folk_date, v_folk_drawSeed, v_folk_age, v_folk_riches, v_folk_out)) else (if p1 ≤ (1 : Int32) then (if p1 = (0 : Int32) then (if v_firstImage_kept = (0 : Int32) then (some ((-1000000003 : Int32), v_folk_date, v_folk_drawSeed, v_folk_age, v_folk_riches, v_folk_out)) else (ob5 (f2_copyFrom N v_folk_date v_folk_drawSeed v_folk_age v_folk_riches v_folk_out v_firstImage_date v_firstImage_drawSeed v_firstImage_age v_firstImage_riches v_firstImage_out) fun v_folk_date_43 v_folk_drawSeed_43 v_folk_age_43 v_folk_riches_43 v_folk_out_43 => some ((1 : Int32), v_folk_date_43, v_folk_drawSeed_43, v_folk_age_43, v_folk_riches_43, v_folk_out_43))) else (if v_secondImage_kept = (0 : Int32) then (some ((-1000000003 : Int32), v_folk_date, v_folk_drawSeed, v_folk_age, v_folk_riches, v_folk_out)) else (ob5 (f2_copyFrom N v_folk_date v_folk_drawSeed v_folk_age v_folk_riches v_folk_out v_secondImage_date v_secondImage_drawSeed v_secondImage_age v_secondImage_riches v_secondImage_out) fun v_folk_date_43 v_folk_drawSeed_43 v_folk_age_43 v_folk_riches_43 v_folk_out_43 => some ((1 : Int32), v_folk_date_43, v_folk_drawSeed_43, v_folk_age_43, v_folk_riches_43, v_folk_out_43)))) else (some ((-1000000001 : Int32), v_folk_date, v_folk_drawSeed, v_folk_age, v_folk_riches, v_folk_out)))
set_option maxHeartbeats 4000000 in
set_option maxRecDepth 100000 in
theorem c8_goBack (l : Launch) (D : va_G) (cy : Nat → ClassId) (N : Nat) (h0 h0_folk h0_folk_age h0_folk_riches h0_folk_out h0_firstImage h0_firstImage_age h0_firstImage_riches h0_firstImage_out h0_secondImage h0_secondImage_age h0_secondImage_riches h0_secondImage_out : Nat) (oh0_0 oh0_1 oh0_2 oh0_3 oh0_4 oh0_5 oh0_6 oh0_10 oh0_11 oh0_12 oh0_13 oh0_folk_0 : Value) (p1 : Int32) (v_folk_date : Int32) (v_folk_drawSeed : Int32) (v_folk_age : Nat → Int32) (v_folk_riches : Nat → Int32) (v_folk_out : Nat → Int32) (v_firstImage_kept : Int32) (v_firstImage_date : Int32) (v_firstImage_drawSeed : Int32) (v_firstImage_age : Nat → Int32) (v_firstImage_riches : Nat → Int32) (v_firstImage_out : Nat → Int32) (v_secondImage_kept : Int32) (v_secondImage_date : Int32) (v_secondImage_drawSeed : Int32) (v_secondImage_age : Nat → Int32) (v_secondImage_riches : Nat → Int32) (v_secondImage_out : Nat → Int32) (r : Int32) (nv_folk_date : Int32) (nv_folk_drawSeed : Int32) (nv_folk_age : Nat → Int32) (nv_folk_riches : Nat → Int32) (nv_folk_out : Nat → Int32) (hM : f8_goBack N p1 v_folk_date v_folk_drawSeed v_folk_age v_folk_riches v_folk_out v_firstImage_kept v_firstImage_date v_firstImage_drawSeed v_firstImage_age v_firstImage_riches v_firstImage_out v_secondImage_kept v_secondImage_date v_secondImage_drawSeed v_secondImage_age v_secondImage_riches v_secondImage_out = some (r, nv_folk_date, nv_folk_drawSeed, nv_folk_age, nv_folk_riches, nv_folk_out)) (sz : Nat) : CTi l yX8_goBack wsX8_goBack r8_goBack [.ref h0, .int p1] D cy sz [(h0, .inr (8, [oh0_0, oh0_1, oh0_2, oh0_3, oh0_4, oh0_5, oh0_6, .ref h0_folk, .ref h0_firstImage, .ref h0_secondImage, oh0_10, oh0_11, oh0_12, oh0_13])), (h0_folk, .inr (2, [oh0_folk_0, .int v_folk_date, .int v_folk_drawSeed, .ref h0_folk_age, .ref h0_folk_riches, .ref h0_folk_out])), (h0_folk_age, .inl (cy 2, 6, .inl v_folk_age)), (h0_folk_riches, .inl (cy 2, 6, .inl v_folk_riches)), (h0_folk_out, .inl (cy 2, 6, .inl v_folk_out)), (h0_firstImage, .inr (2, [.int v_firstImage_kept, .int v_firstImage_date, .int v_firstImage_drawSeed, .ref h0_firstImage_age, .ref h0_firstImage_riches, .ref h0_firstImage_out])), (h0_firstImage_age, .inl (cy 2, 6, .inl v_firstImage_age)), (h0_firstImage_riches, .inl (cy 2, 6, .inl v_firstImage_riches)), (h0_firstImage_out, .inl (cy 2, 6, .inl v_firstImage_out)), (h0_secondImage, .inr (2, [.int v_secondImage_kept, .int v_secondImage_date, .int v_secondImage_drawSeed, .ref h0_secondImage_age, .ref h0_secondImage_riches, .ref h0_secondImage_out])), (h0_secondImage_age, .inl (cy 2, 6, .inl v_secondImage_age)), (h0_secondImage_riches, .inl (cy 2, 6, .inl v_secondImage_riches)), (h0_secondImage_out, .inl (cy 2, 6, .inl v_secondImage_out))] [(h0, .inr (8, [oh0_0, oh0_1, oh0_2, oh0_3, oh0_4, oh0_5, oh0_6, .ref h0_folk, .ref h0_firstImage, .ref h0_secondImage, oh0_10, oh0_11, oh0_12, oh0_13])), (h0_folk, .inr (2, [oh0_folk_0, .int nv_folk_date, .int nv_folk_drawSeed, .ref h0_folk_age, .ref h0_folk_riches, .ref h0_folk_out])), (h0_folk_age, .inl (cy 2, 6, .inl nv_folk_age)), (h0_folk_riches, .inl (cy 2, 6, .inl nv_folk_riches)), (h0_folk_out, .inl (cy 2, 6, .inl nv_folk_out)), (h0_firstImage, .inr (2, [.int v_firstImage_kept, .int v_firstImage_date, .int v_firstImage_drawSeed, .ref h0_firstImage_age, .ref h0_firstImage_riches, .ref h0_firstImage_out])), (h0_firstImage_age, .inl (cy 2, 6, .inl v_firstImage_age)), (h0_firstImage_riches, .inl (cy 2, 6, .inl v_firstImage_riches)), (h0_firstImage_out, .inl (cy 2, 6, .inl v_firstImage_out)), (h0_secondImage, .inr (2, [.int v_secondImage_kept, .int v_secondImage_date, .int v_secondImage_drawSeed, .ref h0_secondImage_age, .ref h0_secondImage_riches, .ref h0_secondImage_out])), (h0_secondImage_age, .inl (cy 2, 6, .inl v_secondImage_age)), (h0_secondImage_riches, .inl (cy 2, 6, .inl v_secondImage_riches)), (h0_secondImage_out, .inl (cy 2, 6, .inl v_secondImage_out))] r := by
  unfold f8_goBack at hM
  refine ct_oi (cc := cX8_goBack) (maxL := 3) (ty := .int) (by decide +kernel) rfl (Nat.le_of_ble_eq_true rfl) (lv0 := [(0, .ref h0), (1, .int p1)]) rfl ?_
  intro p e s m args below meth c A Q ls hx hb hts hown hml hK hP hD hS hA hret hl
  have hown : s.vm.findClass RX8 = some m.cls := hown
  have k140 := hts (.constant RX8 140 (-1000000001)) (List.mem_of_getElem? (i := 1) (by decide +kernel))
  have k54 := hts (.fieldLink RX8 54 "CaveYears" "secondImage" "LCaveYears$Folk;") (List.mem_of_getElem? (i := 3) (by decide +kernel))
  have iX8 := (fun w h => (List.mem_cons_of_mem _ (List.mem_append_left _ (List.mem_append_right _ h))) : ∀ w ∈ wsX80, w ∈ wsX8_goBack)
  have k101 := hts (.fieldLink RX8 101 "CaveYears$Folk" "kept" "Z") (List.mem_of_getElem? (i := 4) (by decide +kernel))
  have iX2 := (fun w h => (List.mem_cons_of_mem _ (List.mem_append_right _ h)) : ∀ w ∈ wsX20, w ∈ wsX8_goBack)
  have k47 := hts (.fieldLink RX8 47 "CaveYears" "folk" "LCaveYears$Folk;") (List.mem_of_getElem? (i := 6) (by decide +kernel))
  have k172 := hts (.constant RX8 172 (-1000000003)) (List.mem_of_getElem? (i := 5) (by decide +kernel))
  have k51 := hts (.fieldLink RX8 51 "CaveYears" "firstImage" "LCaveYears$Folk;") (List.mem_of_getElem? (i := 2) (by decide +kernel))
  refine lv_iload_n hx hb dX8_goBack_0 rfl (lv_at hl 1 rfl) ?_
  refine lv_if_lt (tgt := 9) hx hb dX8_goBack_1 (by decide) (fun c1 => ?_) (fun c1 => ?_)
  · have hM := g_pos c1 hM
    refine lv_ldc (v := -1000000001) hx hb hown k140 dX8_goBack_9 ?_
    obtain ⟨rfl, rfl, rfl, rfl, rfl, rfl⟩ := si6 hM
    exact hret _ _ _ _ _ dX8_goBack_11 rfl rfl hP hD hS
  · have hM := g_neg c1 hM
    refine lv_iload_n hx hb dX8_goBack_4 rfl (lv_at hl 1 rfl) ?_
    refine lv_iconst (v := 1) hx hb dX8_goBack_5 (by decide) ?_
    refine lv_icmp_le (tgt := 12) hx hb dX8_goBack_6 (by decide) (fun c6 => ?_) (fun c6 => ?_)
    · have hM := g_pos c6 hM
      refine lv_iload_n hx hb dX8_goBack_12 rfl (lv_at hl 1 rfl) ?_
      refine lv_if_ne (tgt := 23) hx hb dX8_goBack_13 (by decide) (fun c13 => ?_) (fun c13 => ?_)
      · have hM := g_neg c13 hM
        refine lv_aload_n hx hb dX8_goBack_23 rfl (lv_at hl 0 rfl) ?_
        refine va_get (D := D) (ci := 8) (v := .ref h0_secondImage) (C := RX8) (T := TX8) (N := 14) hx hb hts iX8 hown hK hP 0 rfl rfl 9 (by decide) k54 (fun _ h9 => h9) rfl dX8_goBack_24 ?_
        refine lv_astore_n (lv' := [(2, .ref h0_secondImage), (0, .ref h0), (1, .int p1)]) hx hb dX8_goBack_27 rfl hl (by decide) rfl (fun ls hl => ?_)
        refine lv_aload_n hx hb dX8_goBack_28 rfl (lv_at hl 0 rfl) ?_
        refine va_get (D := D) (ci := 2) (v := .int v_secondImage_kept) (C := RX2) (T := TX2) (N := 6) hx hb hts iX2 hown hK hP 9 rfl rfl 0 (by decide) k101 (fun _ h9 => h9) rfl dX8_goBack_29 ?_
        refine lv_if_ne (tgt := 38) hx hb dX8_goBack_32 (by decide) (fun c32 => ?_) (fun c32 => ?_)
        · have hM := g_neg c32 hM
          refine lv_aload_n hx hb dX8_goBack_38 rfl (lv_at hl 1 rfl) ?_
          refine va_get (D := D) (ci := 8) (v := .ref h0_folk) (C := RX8) (T := TX8) (N := 14) hx hb hts iX8 hown hK hP 0 rfl rfl 7 (by decide) k47 (fun _ h9 => h9) rfl dX8_goBack_39 ?_
          refine lv_aload_n hx hb dX8_goBack_42 rfl (lv_at hl 0 rfl) ?_
          obtain ⟨v_folk_date_43, v_folk_drawSeed_43, v_folk_age_43, v_folk_riches_43, v_folk_out_43, hc43, hM⟩ := ob5_some hM
          refine cl_vv (As := [.ref h0_secondImage]) (rest := []) (ci := 2) (q0 := 1) (wr := [(h0, .inr (8, [oh0_0, oh0_1, oh0_2, oh0_3, oh0_4, oh0_5, oh0_6, .ref h0_folk, .ref h0_firstImage, .ref h0_secondImage, oh0_10, oh0_11, oh0_12, oh0_13])), (h0_firstImage, .inr (2, [.int v_firstImage_kept, .int v_firstImage_date, .int v_firstImage_drawSeed, .ref h0_firstImage_age, .ref h0_firstImage_riches, .ref h0_firstImage_out])), (h0_firstImage_age, .inl (cy 2, 6, .inl v_firstImage_age)), (h0_firstImage_riches, .inl (cy 2, 6, .inl v_firstImage_riches)), (h0_firstImage_out, .inl (cy 2, 6, .inl v_firstImage_out))]) (ws2 := [(h0, .inr (8, [oh0_0, oh0_1, oh0_2, oh0_3, oh0_4, oh0_5, oh0_6, .ref h0_folk, .ref h0_firstImage, .ref h0_secondImage, oh0_10, oh0_11, oh0_12, oh0_13])), (h0_folk, .inr (2, [oh0_folk_0, .int v_folk_date_43, .int v_folk_drawSeed_43, .ref h0_folk_age, .ref h0_folk_riches, .ref h0_folk_out])), (h0_folk_age, .inl (cy 2, 6, .inl v_folk_age_43)), (h0_folk_riches, .inl (cy 2, 6, .inl v_folk_riches_43)), (h0_folk_out, .inl (cy 2, 6, .inl v_folk_out_43)), (h0_firstImage, .inr (2, [.int v_firstImage_kept, .int v_firstImage_date, .int v_firstImage_drawSeed, .ref h0_firstImage_age, .ref h0_firstImage_riches, .ref h0_firstImage_out])), (h0_firstImage_age, .inl (cy 2, 6, .inl v_firstImage_age)), (h0_firstImage_riches, .inl (cy 2, 6, .inl v_firstImage_riches)), (h0_firstImage_out, .inl (cy 2, 6, .inl v_firstImage_out)), (h0_secondImage, .inr (2, [.int v_secondImage_kept, .int v_secondImage_date, .int v_secondImage_drawSeed, .ref h0_secondImage_age, .ref h0_secondImage_riches, .ref h0_secondImage_out])), (h0_secondImage_age, .inl (cy 2, 6, .inl v_secondImage_age)), (h0_secondImage_riches, .inl (cy 2, 6, .inl v_secondImage_riches)), (h0_secondImage_out, .inl (cy 2, 6, .inl v_secondImage_out))]) (isC := [1, 2, 3, 4, 9, 10, 11, 12]) (isR := [0, 5, 6, 7, 8]) (pm := [0, 5, 6, 7, 8, 1, 2, 3, 4, 9, 10, 11, 12]) hx hb hml hown hts (c2_copyFrom l D cy N h0_folk h0_folk_age h0_folk_riches h0_folk_out h0_secondImage h0_secondImage_age h0_secondImage_riches h0_secondImage_out oh0_folk_0 (.int v_secondImage_kept) v_folk_date v_folk_drawSeed v_folk_age v_folk_riches v_folk_out v_secondImage_date v_secondImage_drawSeed v_secondImage_age v_secondImage_riches v_secondImage_out v_folk_date_43 v_folk_drawSeed_43 v_folk_age_43 v_folk_riches_43 v_folk_out_43 hc43) (cwV 1 hts gX8_goBack_X2_copyFrom rfl rfl rfl (by decide +kernel) ⟨Nat.le_of_ble_eq_true rfl, Nat.le_of_ble_eq_true rfl⟩) hK hP hD hS hA rfl rfl rfl rfl rfl (by decide) rfl rfl rfl hl.1 (Nat.le_of_ble_eq_true rfl) dX8_goBack_43 ⟨Nat.zero_le _, Nat.zero_le _⟩ rfl rfl (fun H locs hP hD hS => ?_)
          refine lv_iconst (v := 1) hx hb dX8_goBack_46 (by decide) ?_
          obtain ⟨rfl, rfl, rfl, rfl, rfl, rfl⟩ := si6 hM
          exact hret _ _ _ _ _ dX8_goBack_47 rfl rfl hP hD hS
        · have hM := g_pos c32 hM
          refine lv_ldc (v := -1000000003) hx hb hown k172 dX8_goBack_35 ?_
          obtain ⟨rfl, rfl, rfl, rfl, rfl, rfl⟩ := si6 hM
          exact hret _ _ _ _ _ dX8_goBack_37 rfl rfl hP hD hS
      · have hM := g_pos c13 hM
        refine lv_aload_n hx hb dX8_goBack_16 rfl (lv_at hl 0 rfl) ?_
        refine va_get (D := D) (ci := 8) (v := .ref h0_firstImage) (C := RX8) (T := TX8) (N := 14) hx hb hts iX8 hown hK hP 0 rfl rfl 8 (by decide) k51 (fun _ h9 => h9) rfl dX8_goBack_17 ?_
        refine lv_goto (tgt := 27) hx hb dX8_goBack_20 (by decide) ?_
        refine lv_astore_n (lv' := [(2, .ref h0_firstImage), (0, .ref h0), (1, .int p1)]) hx hb dX8_goBack_27 rfl hl (by decide) rfl (fun ls hl => ?_)
        refine lv_aload_n hx hb dX8_goBack_28 rfl (lv_at hl 0 rfl) ?_
        refine va_get (D := D) (ci := 2) (v := .int v_firstImage_kept) (C := RX2) (T := TX2) (N := 6) hx hb hts iX2 hown hK hP 5 rfl rfl 0 (by decide) k101 (fun _ h9 => h9) rfl dX8_goBack_29 ?_
        refine lv_if_ne (tgt := 38) hx hb dX8_goBack_32 (by decide) (fun c32 => ?_) (fun c32 => ?_)
        · have hM := g_neg c32 hM
          refine lv_aload_n hx hb dX8_goBack_38 rfl (lv_at hl 1 rfl) ?_
          refine va_get (D := D) (ci := 8) (v := .ref h0_folk) (C := RX8) (T := TX8) (N := 14) hx hb hts iX8 hown hK hP 0 rfl rfl 7 (by decide) k47 (fun _ h9 => h9) rfl dX8_goBack_39 ?_
          refine lv_aload_n hx hb dX8_goBack_42 rfl (lv_at hl 0 rfl) ?_
          obtain ⟨v_folk_date_43, v_folk_drawSeed_43, v_folk_age_43, v_folk_riches_43, v_folk_out_43, hc43, hM⟩ := ob5_some hM
          refine cl_vv (As := [.ref h0_firstImage]) (rest := []) (ci := 2) (q0 := 1) (wr := [(h0, .inr (8, [oh0_0, oh0_1, oh0_2, oh0_3, oh0_4, oh0_5, oh0_6, .ref h0_folk, .ref h0_firstImage, .ref h0_secondImage, oh0_10, oh0_11, oh0_12, oh0_13])), (h0_secondImage, .inr (2, [.int v_secondImage_kept, .int v_secondImage_date, .int v_secondImage_drawSeed, .ref h0_secondImage_age, .ref h0_secondImage_riches, .ref h0_secondImage_out])), (h0_secondImage_age, .inl (cy 2, 6, .inl v_secondImage_age)), (h0_secondImage_riches, .inl (cy 2, 6, .inl v_secondImage_riches)), (h0_secondImage_out, .inl (cy 2, 6, .inl v_secondImage_out))]) (ws2 := [(h0, .inr (8, [oh0_0, oh0_1, oh0_2, oh0_3, oh0_4, oh0_5, oh0_6, .ref h0_folk, .ref h0_firstImage, .ref h0_secondImage, oh0_10, oh0_11, oh0_12, oh0_13])), (h0_folk, .inr (2, [oh0_folk_0, .int v_folk_date_43, .int v_folk_drawSeed_43, .ref h0_folk_age, .ref h0_folk_riches, .ref h0_folk_out])), (h0_folk_age, .inl (cy 2, 6, .inl v_folk_age_43)), (h0_folk_riches, .inl (cy 2, 6, .inl v_folk_riches_43)), (h0_folk_out, .inl (cy 2, 6, .inl v_folk_out_43)), (h0_firstImage, .inr (2, [.int v_firstImage_kept, .int v_firstImage_date, .int v_firstImage_drawSeed, .ref h0_firstImage_age, .ref h0_firstImage_riches, .ref h0_firstImage_out])), (h0_firstImage_age, .inl (cy 2, 6, .inl v_firstImage_age)), (h0_firstImage_riches, .inl (cy 2, 6, .inl v_firstImage_riches)), (h0_firstImage_out, .inl (cy 2, 6, .inl v_firstImage_out)), (h0_secondImage, .inr (2, [.int v_secondImage_kept, .int v_secondImage_date, .int v_secondImage_drawSeed, .ref h0_secondImage_age, .ref h0_secondImage_riches, .ref h0_secondImage_out])), (h0_secondImage_age, .inl (cy 2, 6, .inl v_secondImage_age)), (h0_secondImage_riches, .inl (cy 2, 6, .inl v_secondImage_riches)), (h0_secondImage_out, .inl (cy 2, 6, .inl v_secondImage_out))]) (isC := [1, 2, 3, 4, 5, 6, 7, 8]) (isR := [0, 9, 10, 11, 12]) (pm := [0, 5, 6, 7, 8, 9, 10, 11, 12, 1, 2, 3, 4]) hx hb hml hown hts (c2_copyFrom l D cy N h0_folk h0_folk_age h0_folk_riches h0_folk_out h0_firstImage h0_firstImage_age h0_firstImage_riches h0_firstImage_out oh0_folk_0 (.int v_firstImage_kept) v_folk_date v_folk_drawSeed v_folk_age v_folk_riches v_folk_out v_firstImage_date v_firstImage_drawSeed v_firstImage_age v_firstImage_riches v_firstImage_out v_folk_date_43 v_folk_drawSeed_43 v_folk_age_43 v_folk_riches_43 v_folk_out_43 hc43) (cwV 1 hts gX8_goBack_X2_copyFrom rfl rfl rfl (by decide +kernel) ⟨Nat.le_of_ble_eq_true rfl, Nat.le_of_ble_eq_true rfl⟩) hK hP hD hS hA rfl rfl rfl rfl rfl (by decide) rfl rfl rfl hl.1 (Nat.le_of_ble_eq_true rfl) dX8_goBack_43 ⟨Nat.zero_le _, Nat.zero_le _⟩ rfl rfl (fun H locs hP hD hS => ?_)
          refine lv_iconst (v := 1) hx hb dX8_goBack_46 (by decide) ?_
          obtain ⟨rfl, rfl, rfl, rfl, rfl, rfl⟩ := si6 hM
          exact hret _ _ _ _ _ dX8_goBack_47 rfl rfl hP hD hS
        · have hM := g_pos c32 hM
          refine lv_ldc (v := -1000000003) hx hb hown k172 dX8_goBack_35 ?_
          obtain ⟨rfl, rfl, rfl, rfl, rfl, rfl⟩ := si6 hM
          exact hret _ _ _ _ _ dX8_goBack_37 rfl rfl hP hD hS
    · have hM := g_neg c6 hM
      refine lv_ldc (v := -1000000001) hx hb hown k140 dX8_goBack_9 ?_
      obtain ⟨rfl, rfl, rfl, rfl, rfl, rfl⟩ := si6 hM
      exact hret _ _ _ _ _ dX8_goBack_11 rfl rfl hP hD hS
