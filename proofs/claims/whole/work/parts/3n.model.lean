-- ===== X9_findTimes findTimes (II)V =====
abbrev r9_findTimes : Room := { frames := 1, cells := 0, slots := 0, locals := 28 }
def f9_findTimes_L25 (N : Nat) (r16 : Int32) : Nat → Int32 → (Nat → Int64) → Option (Nat → Int64)
  | 0, _, _ => none
  | n + 1, x5_25, v_can_25 => if (94 : Int32) ≤ x5_25 then (some v_can_25) else (gi (((94 : Int32) * r16) + x5_25) 26978 ((f9_findTimes_L25 N r16 n) (x5_25 + (1 : Int32)) (vp_updL v_can_25 (((94 : Int32) * r16) + x5_25).toNatClampNeg (0 : Int64))))
def f9_findTimes_L96 (N : Nat) (p1 : Int32) (v_parts : Nat → Int32) (v_rates : Nat → Int32) (v_ways : Nat → Int32) (x3_2 : Int32) (r16 : Int32) : Nat → Int32 → (Nat → Int64) → Option (Nat → Int64)
  | 0, _, _ => none
  | n + 1, x5_96, v_can_96 => gi (0 : Int32) 2 (if (v_parts (0 : Int32).toNatClampNeg) ≤ x5_96 then (some v_can_96) else (ob1 (f9_isStep N x3_2 x5_96 v_ways) fun r111 => if r111 = (0 : Int32) then ((f9_findTimes_L96 N p1 v_parts v_rates v_ways x3_2 r16 n) (x5_96 + (1 : Int32)) v_can_96) else (ob1 (f9_index N (p1 - (1 : Int32)) x5_96) fun r127 => gi x3_2 14 (ob1 (f9_addShifted N ((94 : Int32) * r16) ((94 : Int32) * r127) (v_rates x3_2.toNatClampNeg) v_can_96) fun v_can_137 => (f9_findTimes_L96 N p1 v_parts v_rates v_ways x3_2 r16 n) (x5_96 + (1 : Int32)) v_can_137))))
def f9_findTimes_L2 (N : Nat) (p1 : Int32) (p2 : Int32) (v_parts : Nat → Int32) (v_rates : Nat → Int32) (v_ways : Nat → Int32) : Nat → Int32 → (Nat → Int64) → Option (Nat → Int64)
  | 0, _, _ => none
  | n + 1, x3_2, v_can_2 => gi (0 : Int32) 2 (if (v_parts (0 : Int32).toNatClampNeg) ≤ x3_2 then (some v_can_2) else (ob1 (f9_index N p1 x3_2) fun r16 => ob1 (f9_findTimes_L25 N r16 N (0 : Int32) v_can_2) fun v_can_e25 => if p1 = (1 : Int32) then (if x3_2 = p2 then (gi x3_2 14 (gi (((94 : Int32) * r16) + ((v_rates x3_2.toNatClampNeg) / (64 : Int32))) 26978 (gi x3_2 14 (gi (((94 : Int32) * r16) + ((v_rates x3_2.toNatClampNeg) / (64 : Int32))) 26978 ((f9_findTimes_L2 N p1 p2 v_parts v_rates v_ways n) (x3_2 + (1 : Int32)) (vp_updL v_can_e25 (((94 : Int32) * r16) + ((v_rates x3_2.toNatClampNeg) / (64 : Int32))).toNatClampNeg ((v_can_e25 (((94 : Int32) * r16) + ((v_rates x3_2.toNatClampNeg) / (64 : Int32))).toNatClampNeg) ||| ((1 : Int64) <<< (((v_rates x3_2.toNatClampNeg) - (v_rates x3_2.toNatClampNeg) / (64 : Int32) * (64 : Int32)).toInt64 &&& 63))))))))) else ((f9_findTimes_L2 N p1 p2 v_parts v_rates v_ways n) (x3_2 + (1 : Int32)) v_can_e25)) else (ob1 (f9_findTimes_L96 N p1 v_parts v_rates v_ways x3_2 r16 N (0 : Int32) v_can_e25) fun v_can_e96 => (f9_findTimes_L2 N p1 p2 v_parts v_rates v_ways n) (x3_2 + (1 : Int32)) v_can_e96)))
def f9_findTimes (N : Nat) (p1 : Int32) (p2 : Int32) (v_parts : Nat → Int32) (v_rates : Nat → Int32) (v_ways : Nat → Int32) (v_can : Nat → Int64) : Option (Nat → Int64) :=
  ob1 (f9_findTimes_L2 N p1 p2 v_parts v_rates v_ways N (0 : Int32) v_can) fun v_can_e2 => some v_can_e2
set_option maxHeartbeats 4000000 in
set_option maxRecDepth 100000 in
theorem c9_findTimes (l : Launch) (D : va_G) (cy : Nat → ClassId) (N : Nat) (h0 h0_parts h0_rates h0_ways h0_can : Nat) (oh0_0 oh0_1 oh0_2 oh0_6 oh0_7 oh0_8 oh0_9 oh0_10 oh0_11 oh0_12 oh0_13 oh0_14 oh0_15 oh0_16 oh0_17 oh0_18 oh0_19 oh0_20 oh0_21 oh0_22 oh0_23 oh0_24 oh0_25 oh0_26 oh0_27 oh0_29 oh0_30 oh0_31 oh0_32 oh0_33 oh0_34 oh0_35 oh0_36 oh0_37 : Value) (p1 : Int32) (p2 : Int32) (v_parts : Nat → Int32) (v_rates : Nat → Int32) (v_ways : Nat → Int32) (v_can : Nat → Int64) (nv_can : Nat → Int64) (hM : f9_findTimes N p1 p2 v_parts v_rates v_ways v_can = some nv_can) (sz : Nat) : CTv l yX9_findTimes wsX9_findTimes r9_findTimes [.ref h0, .int p1, .int p2] D cy sz [(h0, .inr (9, [oh0_0, oh0_1, oh0_2, .ref h0_parts, .ref h0_rates, .ref h0_ways, oh0_6, oh0_7, oh0_8, oh0_9, oh0_10, oh0_11, oh0_12, oh0_13, oh0_14, oh0_15, oh0_16, oh0_17, oh0_18, oh0_19, oh0_20, oh0_21, oh0_22, oh0_23, oh0_24, oh0_25, oh0_26, oh0_27, .ref h0_can, oh0_29, oh0_30, oh0_31, oh0_32, oh0_33, oh0_34, oh0_35, oh0_36, oh0_37])), (h0_parts, .inl (cy 2, 2, .inl v_parts)), (h0_rates, .inl (cy 2, 14, .inl v_rates)), (h0_ways, .inl (cy 2, 14, .inl v_ways)), (h0_can, .inl (cy 3, 26978, .inr (.inl v_can)))] [(h0, .inr (9, [oh0_0, oh0_1, oh0_2, .ref h0_parts, .ref h0_rates, .ref h0_ways, oh0_6, oh0_7, oh0_8, oh0_9, oh0_10, oh0_11, oh0_12, oh0_13, oh0_14, oh0_15, oh0_16, oh0_17, oh0_18, oh0_19, oh0_20, oh0_21, oh0_22, oh0_23, oh0_24, oh0_25, oh0_26, oh0_27, .ref h0_can, oh0_29, oh0_30, oh0_31, oh0_32, oh0_33, oh0_34, oh0_35, oh0_36, oh0_37])), (h0_parts, .inl (cy 2, 2, .inl v_parts)), (h0_rates, .inl (cy 2, 14, .inl v_rates)), (h0_ways, .inl (cy 2, 14, .inl v_ways)), (h0_can, .inl (cy 3, 26978, .inr (.inl nv_can)))] := by
  unfold f9_findTimes at hM
  refine ct_ov (cc := cX9_findTimes) (maxL := 6)  (by decide +kernel) rfl (Nat.le_of_ble_eq_true rfl) (lv0 := [(0, .ref h0), (1, .int p1), (2, .int p2)]) rfl ?_
  intro p e s m args below meth c A Q ls hx hb hts hown hml hK hP hD hS hA hret hl
  have hown : s.vm.findClass RX9 = some m.cls := hown
  have k13 := hts (.fieldLink RX9 13 "CaveYearsModel" "parts" "[I") (List.mem_of_getElem? (i := 1) (by decide +kernel))
  have iX9 := (fun w h => (List.mem_cons_of_mem _ (List.mem_append_right _ h)) : ∀ w ∈ wsX90, w ∈ wsX9_findTimes)
  have k66 := hts (.fieldLink RX9 66 "CaveYearsModel" "can" "[J") (List.mem_of_getElem? (i := 2) (by decide +kernel))
  have k17 := hts (.fieldLink RX9 17 "CaveYearsModel" "rates" "[I") (List.mem_of_getElem? (i := 3) (by decide +kernel))
  refine lv_iconst (v := 0) hx hb dX9_findTimes_0 (by decide) ?_
  refine lv_istore_n (lv' := [(3, .int (0 : Int32)), (0, .ref h0), (1, .int p1), (2, .int p2)]) hx hb dX9_findTimes_1 rfl hl (by decide) rfl (fun ls hl => ?_)
  have L2 : ∀ (n : Nat) (x3_2 : Int32) (v_can_2 : Nat → Int64) (v_can_e2 : Nat → Int64) (H : Heap) (locs : List Loc) (ls : Array Slot), f9_findTimes_L2 N p1 p2 v_parts v_rates v_ways n x3_2 v_can_2 = some v_can_e2 → va_P D vwCl [(h0, .inr (9, [oh0_0, oh0_1, oh0_2, .ref h0_parts, .ref h0_rates, .ref h0_ways, oh0_6, oh0_7, oh0_8, oh0_9, oh0_10, oh0_11, oh0_12, oh0_13, oh0_14, oh0_15, oh0_16, oh0_17, oh0_18, oh0_19, oh0_20, oh0_21, oh0_22, oh0_23, oh0_24, oh0_25, oh0_26, oh0_27, .ref h0_can, oh0_29, oh0_30, oh0_31, oh0_32, oh0_33, oh0_34, oh0_35, oh0_36, oh0_37])), (h0_parts, .inl (cy 2, 2, .inl v_parts)), (h0_rates, .inl (cy 2, 14, .inl v_rates)), (h0_ways, .inl (cy 2, 14, .inl v_ways)), (h0_can, .inl (cy 3, 26978, .inr (.inl v_can_2)))] H → va_D A [(h0, .inr (9, [oh0_0, oh0_1, oh0_2, .ref h0_parts, .ref h0_rates, .ref h0_ways, oh0_6, oh0_7, oh0_8, oh0_9, oh0_10, oh0_11, oh0_12, oh0_13, oh0_14, oh0_15, oh0_16, oh0_17, oh0_18, oh0_19, oh0_20, oh0_21, oh0_22, oh0_23, oh0_24, oh0_25, oh0_26, oh0_27, .ref h0_can, oh0_29, oh0_30, oh0_31, oh0_32, oh0_33, oh0_34, oh0_35, oh0_36, oh0_37])), (h0_parts, .inl (cy 2, 2, .inl v_parts)), (h0_rates, .inl (cy 2, 14, .inl v_rates)), (h0_ways, .inl (cy 2, 14, .inl v_ways)), (h0_can, .inl (cy 3, 26978, .inr (.inl v_can_2)))] → va_S A s.heap H locs → lv_has ls 6 [(0, .ref h0), (1, .int p1), (2, .int p2), (3, .int x3_2)] → (∀ (H : Heap) (locs : List Loc) (ls : Array Slot), va_P D vwCl [(h0, .inr (9, [oh0_0, oh0_1, oh0_2, .ref h0_parts, .ref h0_rates, .ref h0_ways, oh0_6, oh0_7, oh0_8, oh0_9, oh0_10, oh0_11, oh0_12, oh0_13, oh0_14, oh0_15, oh0_16, oh0_17, oh0_18, oh0_19, oh0_20, oh0_21, oh0_22, oh0_23, oh0_24, oh0_25, oh0_26, oh0_27, .ref h0_can, oh0_29, oh0_30, oh0_31, oh0_32, oh0_33, oh0_34, oh0_35, oh0_36, oh0_37])), (h0_parts, .inl (cy 2, 2, .inl v_parts)), (h0_rates, .inl (cy 2, 14, .inl v_rates)), (h0_ways, .inl (cy 2, 14, .inl v_ways)), (h0_can, .inl (cy 3, 26978, .inr (.inl v_can_e2)))] H → va_D A [(h0, .inr (9, [oh0_0, oh0_1, oh0_2, .ref h0_parts, .ref h0_rates, .ref h0_ways, oh0_6, oh0_7, oh0_8, oh0_9, oh0_10, oh0_11, oh0_12, oh0_13, oh0_14, oh0_15, oh0_16, oh0_17, oh0_18, oh0_19, oh0_20, oh0_21, oh0_22, oh0_23, oh0_24, oh0_25, oh0_26, oh0_27, .ref h0_can, oh0_29, oh0_30, oh0_31, oh0_32, oh0_33, oh0_34, oh0_35, oh0_36, oh0_37])), (h0_parts, .inl (cy 2, 2, .inl v_parts)), (h0_rates, .inl (cy 2, 14, .inl v_rates)), (h0_ways, .inl (cy 2, 14, .inl v_ways)), (h0_can, .inl (cy 3, 26978, .inr (.inl v_can_e2)))] → va_S A s.heap H locs → lv_has ls 6 [] → W p l e r9_findTimes s m args below meth c H locs 0 0 Q (F0 m 152 ls [])) → W p l e r9_findTimes s m args below meth c H locs 0 0 Q (F0 m 2 ls []) := by
    intro n2
    induction n2 with
    | zero =>
      intro x3_2 v_can_2 v_can_e2 H locs ls hM
      exact absurd hM (by simp [f9_findTimes_L2])
    | succ n2 ih2 =>
      intro x3_2 v_can_2 v_can_e2 H locs ls hM hP hD hS hl K
      rw [f9_findTimes_L2] at hM
      refine lv_iload_n hx hb dX9_findTimes_2 rfl (lv_at hl 3 rfl) ?_
      refine lv_aload_n hx hb dX9_findTimes_3 rfl (lv_at hl 0 rfl) ?_
      refine va_get (D := D) (ci := 9) (v := .ref h0_parts) (C := RX9) (T := TX9) (N := 38) hx hb hts iX9 hown hK hP 0 rfl rfl 3 (by decide) k13 (fun _ h9 => h9) rfl dX9_findTimes_4 ?_
      refine lv_iconst (v := 0) hx hb dX9_findTimes_7 (by decide) ?_
      obtain ⟨h8, hM⟩ := gi_some hM
      refine va_iald hx hb hK hP 1 2 rfl rfl h8 dX9_findTimes_8 ?_
      refine lv_icmp_ge (tgt := 152) hx hb dX9_findTimes_9 (by decide) (fun c9 => ?_) (fun c9 => ?_)
      · have hM := g_pos c9 hM
        obtain rfl := si1 hM
        exact K _ _ _ hP hD hS (lv_sub hl [] rfl)
      · have hM := g_neg c9 hM
        refine lv_bipush (v := 94) hx hb dX9_findTimes_12 (by decide) ?_
        refine lv_iload_n hx hb dX9_findTimes_14 rfl (lv_at hl 1 rfl) ?_
        refine lv_iload_n hx hb dX9_findTimes_15 rfl (lv_at hl 3 rfl) ?_
        obtain ⟨r16, hc16, hM⟩ := ob1_some hM
        refine cl_si (As := [.int p1, .int x3_2]) (rest := [.int (94 : Int32)]) (wr := [(h0, .inr (9, [oh0_0, oh0_1, oh0_2, .ref h0_parts, .ref h0_rates, .ref h0_ways, oh0_6, oh0_7, oh0_8, oh0_9, oh0_10, oh0_11, oh0_12, oh0_13, oh0_14, oh0_15, oh0_16, oh0_17, oh0_18, oh0_19, oh0_20, oh0_21, oh0_22, oh0_23, oh0_24, oh0_25, oh0_26, oh0_27, .ref h0_can, oh0_29, oh0_30, oh0_31, oh0_32, oh0_33, oh0_34, oh0_35, oh0_36, oh0_37])), (h0_parts, .inl (cy 2, 2, .inl v_parts)), (h0_rates, .inl (cy 2, 14, .inl v_rates)), (h0_ways, .inl (cy 2, 14, .inl v_ways)), (h0_can, .inl (cy 3, 26978, .inr (.inl v_can_2)))]) (ws2 := [(h0, .inr (9, [oh0_0, oh0_1, oh0_2, .ref h0_parts, .ref h0_rates, .ref h0_ways, oh0_6, oh0_7, oh0_8, oh0_9, oh0_10, oh0_11, oh0_12, oh0_13, oh0_14, oh0_15, oh0_16, oh0_17, oh0_18, oh0_19, oh0_20, oh0_21, oh0_22, oh0_23, oh0_24, oh0_25, oh0_26, oh0_27, .ref h0_can, oh0_29, oh0_30, oh0_31, oh0_32, oh0_33, oh0_34, oh0_35, oh0_36, oh0_37])), (h0_parts, .inl (cy 2, 2, .inl v_parts)), (h0_rates, .inl (cy 2, 14, .inl v_rates)), (h0_ways, .inl (cy 2, 14, .inl v_ways)), (h0_can, .inl (cy 3, 26978, .inr (.inl v_can_2)))]) (isC := []) (isR := [0, 1, 2, 3, 4]) (pm := [0, 1, 2, 3, 4]) hx hb hml hown hts (c9_index l D cy N p1 x3_2 r16 hc16) (va_cwS 2 hts gX9_findTimes_X9_index rfl rfl rfl (by decide +kernel) ⟨Nat.le_of_ble_eq_true rfl, Nat.le_of_ble_eq_true rfl⟩) hK hP hD hS hA rfl rfl rfl (by decide) rfl rfl rfl hl.1 (Nat.le_of_ble_eq_true rfl) dX9_findTimes_16 ⟨Nat.zero_le _, Nat.zero_le _⟩ rfl rfl (fun H locs hP hD hS => ?_)
        refine lv_imul hx hb dX9_findTimes_19 ?_
        refine lv_istore (lv' := [(4, .int ((94 : Int32) * r16)), (0, .ref h0), (1, .int p1), (2, .int p2), (3, .int x3_2)]) hx hb dX9_findTimes_20 hl (by decide) rfl (fun ls hl => ?_)
        refine lv_iconst (v := 0) hx hb dX9_findTimes_22 (by decide) ?_
        refine lv_istore (lv' := [(5, .int (0 : Int32)), (4, .int ((94 : Int32) * r16)), (0, .ref h0), (1, .int p1), (2, .int p2), (3, .int x3_2)]) hx hb dX9_findTimes_23 hl (by decide) rfl (fun ls hl => ?_)
        have L25 : ∀ (n : Nat) (x5_25 : Int32) (v_can_25 : Nat → Int64) (v_can_e25 : Nat → Int64) (H : Heap) (locs : List Loc) (ls : Array Slot), f9_findTimes_L25 N r16 n x5_25 v_can_25 = some v_can_e25 → va_P D vwCl [(h0, .inr (9, [oh0_0, oh0_1, oh0_2, .ref h0_parts, .ref h0_rates, .ref h0_ways, oh0_6, oh0_7, oh0_8, oh0_9, oh0_10, oh0_11, oh0_12, oh0_13, oh0_14, oh0_15, oh0_16, oh0_17, oh0_18, oh0_19, oh0_20, oh0_21, oh0_22, oh0_23, oh0_24, oh0_25, oh0_26, oh0_27, .ref h0_can, oh0_29, oh0_30, oh0_31, oh0_32, oh0_33, oh0_34, oh0_35, oh0_36, oh0_37])), (h0_parts, .inl (cy 2, 2, .inl v_parts)), (h0_rates, .inl (cy 2, 14, .inl v_rates)), (h0_ways, .inl (cy 2, 14, .inl v_ways)), (h0_can, .inl (cy 3, 26978, .inr (.inl v_can_25)))] H → va_D A [(h0, .inr (9, [oh0_0, oh0_1, oh0_2, .ref h0_parts, .ref h0_rates, .ref h0_ways, oh0_6, oh0_7, oh0_8, oh0_9, oh0_10, oh0_11, oh0_12, oh0_13, oh0_14, oh0_15, oh0_16, oh0_17, oh0_18, oh0_19, oh0_20, oh0_21, oh0_22, oh0_23, oh0_24, oh0_25, oh0_26, oh0_27, .ref h0_can, oh0_29, oh0_30, oh0_31, oh0_32, oh0_33, oh0_34, oh0_35, oh0_36, oh0_37])), (h0_parts, .inl (cy 2, 2, .inl v_parts)), (h0_rates, .inl (cy 2, 14, .inl v_rates)), (h0_ways, .inl (cy 2, 14, .inl v_ways)), (h0_can, .inl (cy 3, 26978, .inr (.inl v_can_25)))] → va_S A s.heap H locs → lv_has ls 6 [(0, .ref h0), (1, .int p1), (2, .int p2), (3, .int x3_2), (4, .int ((94 : Int32) * r16)), (5, .int x5_25)] → (∀ (H : Heap) (locs : List Loc) (ls : Array Slot), va_P D vwCl [(h0, .inr (9, [oh0_0, oh0_1, oh0_2, .ref h0_parts, .ref h0_rates, .ref h0_ways, oh0_6, oh0_7, oh0_8, oh0_9, oh0_10, oh0_11, oh0_12, oh0_13, oh0_14, oh0_15, oh0_16, oh0_17, oh0_18, oh0_19, oh0_20, oh0_21, oh0_22, oh0_23, oh0_24, oh0_25, oh0_26, oh0_27, .ref h0_can, oh0_29, oh0_30, oh0_31, oh0_32, oh0_33, oh0_34, oh0_35, oh0_36, oh0_37])), (h0_parts, .inl (cy 2, 2, .inl v_parts)), (h0_rates, .inl (cy 2, 14, .inl v_rates)), (h0_ways, .inl (cy 2, 14, .inl v_ways)), (h0_can, .inl (cy 3, 26978, .inr (.inl v_can_e25)))] H → va_D A [(h0, .inr (9, [oh0_0, oh0_1, oh0_2, .ref h0_parts, .ref h0_rates, .ref h0_ways, oh0_6, oh0_7, oh0_8, oh0_9, oh0_10, oh0_11, oh0_12, oh0_13, oh0_14, oh0_15, oh0_16, oh0_17, oh0_18, oh0_19, oh0_20, oh0_21, oh0_22, oh0_23, oh0_24, oh0_25, oh0_26, oh0_27, .ref h0_can, oh0_29, oh0_30, oh0_31, oh0_32, oh0_33, oh0_34, oh0_35, oh0_36, oh0_37])), (h0_parts, .inl (cy 2, 2, .inl v_parts)), (h0_rates, .inl (cy 2, 14, .inl v_rates)), (h0_ways, .inl (cy 2, 14, .inl v_ways)), (h0_can, .inl (cy 3, 26978, .inr (.inl v_can_e25)))] → va_S A s.heap H locs → lv_has ls 6 [(0, .ref h0), (1, .int p1), (2, .int p2), (3, .int x3_2), (4, .int ((94 : Int32) * r16))] → W p l e r9_findTimes s m args below meth c H locs 0 0 Q (F0 m 49 ls [])) → W p l e r9_findTimes s m args below meth c H locs 0 0 Q (F0 m 25 ls []) := by
          intro n25
          induction n25 with
          | zero =>
            intro x5_25 v_can_25 v_can_e25 H locs ls hM
            exact absurd hM (by simp [f9_findTimes_L25])
          | succ n25 ih25 =>
            intro x5_25 v_can_25 v_can_e25 H locs ls hM hP hD hS hl K
            rw [f9_findTimes_L25] at hM
            refine lv_iload hx hb dX9_findTimes_25 (lv_at hl 5 rfl) ?_
            refine lv_bipush (v := 94) hx hb dX9_findTimes_27 (by decide) ?_
            refine lv_icmp_ge (tgt := 49) hx hb dX9_findTimes_29 (by decide) (fun c29 => ?_) (fun c29 => ?_)
            · have hM := g_pos c29 hM
              obtain rfl := si1 hM
              exact K _ _ _ hP hD hS (lv_sub hl [0, 1, 2, 3, 4] rfl)
            · have hM := g_neg c29 hM
              refine lv_aload_n hx hb dX9_findTimes_32 rfl (lv_at hl 0 rfl) ?_
              refine va_get (D := D) (ci := 9) (v := .ref h0_can) (C := RX9) (T := TX9) (N := 38) hx hb hts iX9 hown hK hP 0 rfl rfl 28 (by decide) k66 (fun _ h9 => h9) rfl dX9_findTimes_33 ?_
              refine lv_iload hx hb dX9_findTimes_36 (lv_at hl 4 rfl) ?_
              refine lv_iload hx hb dX9_findTimes_38 (lv_at hl 5 rfl) ?_
              refine lv_iadd hx hb dX9_findTimes_40 ?_
              refine lv_lconst (v := 0) hx hb dX9_findTimes_41 (by decide) ?_
              obtain ⟨h42, hM⟩ := gi_some hM
              refine va_last hx hb hK hP hD hS 4 3 rfl rfl h42 dX9_findTimes_42 (fun H locs hP hD hS => ?_)
              have hP : va_P D vwCl [(h0, .inr (9, [oh0_0, oh0_1, oh0_2, .ref h0_parts, .ref h0_rates, .ref h0_ways, oh0_6, oh0_7, oh0_8, oh0_9, oh0_10, oh0_11, oh0_12, oh0_13, oh0_14, oh0_15, oh0_16, oh0_17, oh0_18, oh0_19, oh0_20, oh0_21, oh0_22, oh0_23, oh0_24, oh0_25, oh0_26, oh0_27, .ref h0_can, oh0_29, oh0_30, oh0_31, oh0_32, oh0_33, oh0_34, oh0_35, oh0_36, oh0_37])), (h0_parts, .inl (cy 2, 2, .inl v_parts)), (h0_rates, .inl (cy 2, 14, .inl v_rates)), (h0_ways, .inl (cy 2, 14, .inl v_ways)), (h0_can, .inl (cy 3, 26978, .inr (.inl (vp_updL v_can_25 (((94 : Int32) * r16) + x5_25).toNatClampNeg (0 : Int64)))))] H := hP
              have hD : va_D A [(h0, .inr (9, [oh0_0, oh0_1, oh0_2, .ref h0_parts, .ref h0_rates, .ref h0_ways, oh0_6, oh0_7, oh0_8, oh0_9, oh0_10, oh0_11, oh0_12, oh0_13, oh0_14, oh0_15, oh0_16, oh0_17, oh0_18, oh0_19, oh0_20, oh0_21, oh0_22, oh0_23, oh0_24, oh0_25, oh0_26, oh0_27, .ref h0_can, oh0_29, oh0_30, oh0_31, oh0_32, oh0_33, oh0_34, oh0_35, oh0_36, oh0_37])), (h0_parts, .inl (cy 2, 2, .inl v_parts)), (h0_rates, .inl (cy 2, 14, .inl v_rates)), (h0_ways, .inl (cy 2, 14, .inl v_ways)), (h0_can, .inl (cy 3, 26978, .inr (.inl (vp_updL v_can_25 (((94 : Int32) * r16) + x5_25).toNatClampNeg (0 : Int64)))))] := hD
              refine lv_iinc (v := x5_25 + (1 : Int32)) (lv' := [(5, .int (x5_25 + (1 : Int32))), (0, .ref h0), (1, .int p1), (2, .int p2), (3, .int x3_2), (4, .int ((94 : Int32) * r16))]) hx hb dX9_findTimes_43 hl (k := 5) rfl rfl (by decide) rfl (fun ls hl => ?_)
              refine lv_goto (tgt := 25) hx hb dX9_findTimes_46 (by decide) ?_
              exact ih25 (x5_25 + (1 : Int32)) (vp_updL v_can_25 (((94 : Int32) * r16) + x5_25).toNatClampNeg (0 : Int64)) v_can_e25 _ _ _ hM hP hD hS (lv_sub hl [1, 2, 3, 4, 5, 0] rfl) K
        obtain ⟨v_can_e25, hL25, hM⟩ := ob1_some hM
        refine L25 N (0 : Int32) v_can_2 v_can_e25 _ _ _ hL25 hP hD hS (lv_sub hl [2, 3, 4, 5, 1, 0] rfl) ?_
        intro H locs ls hP hD hS hl
        refine lv_iload_n hx hb dX9_findTimes_49 rfl (lv_at hl 1 rfl) ?_
        refine lv_iconst (v := 1) hx hb dX9_findTimes_50 (by decide) ?_
        refine lv_icmp_ne (tgt := 93) hx hb dX9_findTimes_51 (by decide) (fun c51 => ?_) (fun c51 => ?_)
        · have hM := g_neg c51 hM
          refine lv_iconst (v := 0) hx hb dX9_findTimes_93 (by decide) ?_
          refine lv_istore (lv' := [(5, .int (0 : Int32)), (0, .ref h0), (1, .int p1), (2, .int p2), (3, .int x3_2), (4, .int ((94 : Int32) * r16))]) hx hb dX9_findTimes_94 hl (by decide) rfl (fun ls hl => ?_)
          have L96 : ∀ (n : Nat) (x5_96 : Int32) (v_can_96 : Nat → Int64) (v_can_e96 : Nat → Int64) (H : Heap) (locs : List Loc) (ls : Array Slot), f9_findTimes_L96 N p1 v_parts v_rates v_ways x3_2 r16 n x5_96 v_can_96 = some v_can_e96 → va_P D vwCl [(h0, .inr (9, [oh0_0, oh0_1, oh0_2, .ref h0_parts, .ref h0_rates, .ref h0_ways, oh0_6, oh0_7, oh0_8, oh0_9, oh0_10, oh0_11, oh0_12, oh0_13, oh0_14, oh0_15, oh0_16, oh0_17, oh0_18, oh0_19, oh0_20, oh0_21, oh0_22, oh0_23, oh0_24, oh0_25, oh0_26, oh0_27, .ref h0_can, oh0_29, oh0_30, oh0_31, oh0_32, oh0_33, oh0_34, oh0_35, oh0_36, oh0_37])), (h0_parts, .inl (cy 2, 2, .inl v_parts)), (h0_rates, .inl (cy 2, 14, .inl v_rates)), (h0_ways, .inl (cy 2, 14, .inl v_ways)), (h0_can, .inl (cy 3, 26978, .inr (.inl v_can_96)))] H → va_D A [(h0, .inr (9, [oh0_0, oh0_1, oh0_2, .ref h0_parts, .ref h0_rates, .ref h0_ways, oh0_6, oh0_7, oh0_8, oh0_9, oh0_10, oh0_11, oh0_12, oh0_13, oh0_14, oh0_15, oh0_16, oh0_17, oh0_18, oh0_19, oh0_20, oh0_21, oh0_22, oh0_23, oh0_24, oh0_25, oh0_26, oh0_27, .ref h0_can, oh0_29, oh0_30, oh0_31, oh0_32, oh0_33, oh0_34, oh0_35, oh0_36, oh0_37])), (h0_parts, .inl (cy 2, 2, .inl v_parts)), (h0_rates, .inl (cy 2, 14, .inl v_rates)), (h0_ways, .inl (cy 2, 14, .inl v_ways)), (h0_can, .inl (cy 3, 26978, .inr (.inl v_can_96)))] → va_S A s.heap H locs → lv_has ls 6 [(0, .ref h0), (1, .int p1), (2, .int p2), (3, .int x3_2), (4, .int ((94 : Int32) * r16)), (5, .int x5_96)] → (∀ (H : Heap) (locs : List Loc) (ls : Array Slot), va_P D vwCl [(h0, .inr (9, [oh0_0, oh0_1, oh0_2, .ref h0_parts, .ref h0_rates, .ref h0_ways, oh0_6, oh0_7, oh0_8, oh0_9, oh0_10, oh0_11, oh0_12, oh0_13, oh0_14, oh0_15, oh0_16, oh0_17, oh0_18, oh0_19, oh0_20, oh0_21, oh0_22, oh0_23, oh0_24, oh0_25, oh0_26, oh0_27, .ref h0_can, oh0_29, oh0_30, oh0_31, oh0_32, oh0_33, oh0_34, oh0_35, oh0_36, oh0_37])), (h0_parts, .inl (cy 2, 2, .inl v_parts)), (h0_rates, .inl (cy 2, 14, .inl v_rates)), (h0_ways, .inl (cy 2, 14, .inl v_ways)), (h0_can, .inl (cy 3, 26978, .inr (.inl v_can_e96)))] H → va_D A [(h0, .inr (9, [oh0_0, oh0_1, oh0_2, .ref h0_parts, .ref h0_rates, .ref h0_ways, oh0_6, oh0_7, oh0_8, oh0_9, oh0_10, oh0_11, oh0_12, oh0_13, oh0_14, oh0_15, oh0_16, oh0_17, oh0_18, oh0_19, oh0_20, oh0_21, oh0_22, oh0_23, oh0_24, oh0_25, oh0_26, oh0_27, .ref h0_can, oh0_29, oh0_30, oh0_31, oh0_32, oh0_33, oh0_34, oh0_35, oh0_36, oh0_37])), (h0_parts, .inl (cy 2, 2, .inl v_parts)), (h0_rates, .inl (cy 2, 14, .inl v_rates)), (h0_ways, .inl (cy 2, 14, .inl v_ways)), (h0_can, .inl (cy 3, 26978, .inr (.inl v_can_e96)))] → va_S A s.heap H locs → lv_has ls 6 [(0, .ref h0), (1, .int p1), (2, .int p2), (3, .int x3_2)] → W p l e r9_findTimes s m args below meth c H locs 0 0 Q (F0 m 146 ls [])) → W p l e r9_findTimes s m args below meth c H locs 0 0 Q (F0 m 96 ls []) := by
            intro n96
            induction n96 with
            | zero =>
              intro x5_96 v_can_96 v_can_e96 H locs ls hM
              exact absurd hM (by simp [f9_findTimes_L96])
            | succ n96 ih96 =>
              intro x5_96 v_can_96 v_can_e96 H locs ls hM hP hD hS hl K
              rw [f9_findTimes_L96] at hM
              refine lv_iload hx hb dX9_findTimes_96 (lv_at hl 5 rfl) ?_
              refine lv_aload_n hx hb dX9_findTimes_98 rfl (lv_at hl 0 rfl) ?_
              refine va_get (D := D) (ci := 9) (v := .ref h0_parts) (C := RX9) (T := TX9) (N := 38) hx hb hts iX9 hown hK hP 0 rfl rfl 3 (by decide) k13 (fun _ h9 => h9) rfl dX9_findTimes_99 ?_
              refine lv_iconst (v := 0) hx hb dX9_findTimes_102 (by decide) ?_
              obtain ⟨h103, hM⟩ := gi_some hM
              refine va_iald hx hb hK hP 1 2 rfl rfl h103 dX9_findTimes_103 ?_
              refine lv_icmp_ge (tgt := 146) hx hb dX9_findTimes_104 (by decide) (fun c104 => ?_) (fun c104 => ?_)
              · have hM := g_pos c104 hM
                obtain rfl := si1 hM
                exact K _ _ _ hP hD hS (lv_sub hl [0, 1, 2, 3] rfl)
              · have hM := g_neg c104 hM
                refine lv_aload_n hx hb dX9_findTimes_107 rfl (lv_at hl 0 rfl) ?_
                refine lv_iload_n hx hb dX9_findTimes_108 rfl (lv_at hl 3 rfl) ?_
                refine lv_iload hx hb dX9_findTimes_109 (lv_at hl 5 rfl) ?_
                obtain ⟨r111, hc111, hM⟩ := ob1_some hM
                refine cl_vi (As := [.int x3_2, .int x5_96]) (rest := []) (ci := 9) (q0 := 0) (wr := [(h0_parts, .inl (cy 2, 2, .inl v_parts)), (h0_rates, .inl (cy 2, 14, .inl v_rates)), (h0_can, .inl (cy 3, 26978, .inr (.inl v_can_96)))]) (ws2 := [(h0, .inr (9, [oh0_0, oh0_1, oh0_2, .ref h0_parts, .ref h0_rates, .ref h0_ways, oh0_6, oh0_7, oh0_8, oh0_9, oh0_10, oh0_11, oh0_12, oh0_13, oh0_14, oh0_15, oh0_16, oh0_17, oh0_18, oh0_19, oh0_20, oh0_21, oh0_22, oh0_23, oh0_24, oh0_25, oh0_26, oh0_27, .ref h0_can, oh0_29, oh0_30, oh0_31, oh0_32, oh0_33, oh0_34, oh0_35, oh0_36, oh0_37])), (h0_parts, .inl (cy 2, 2, .inl v_parts)), (h0_rates, .inl (cy 2, 14, .inl v_rates)), (h0_ways, .inl (cy 2, 14, .inl v_ways)), (h0_can, .inl (cy 3, 26978, .inr (.inl v_can_96)))]) (isC := [0, 3]) (isR := [1, 2, 4]) (pm := [3, 0, 1, 4, 2]) hx hb hml hown hts (c9_isStep l D cy N h0 h0_ways oh0_0 oh0_1 oh0_2 (.ref h0_parts) (.ref h0_rates) oh0_6 oh0_7 oh0_8 oh0_9 oh0_10 oh0_11 oh0_12 oh0_13 oh0_14 oh0_15 oh0_16 oh0_17 oh0_18 oh0_19 oh0_20 oh0_21 oh0_22 oh0_23 oh0_24 oh0_25 oh0_26 oh0_27 (.ref h0_can) oh0_29 oh0_30 oh0_31 oh0_32 oh0_33 oh0_34 oh0_35 oh0_36 oh0_37 x3_2 x5_96 v_ways r111 hc111) (cwV 2 hts gX9_findTimes_X9_isStep rfl rfl rfl (by decide +kernel) ⟨Nat.le_of_ble_eq_true rfl, Nat.le_of_ble_eq_true rfl⟩) hK hP hD hS hA rfl rfl rfl rfl rfl (by decide) rfl rfl rfl hl.1 (Nat.le_of_ble_eq_true rfl) dX9_findTimes_111 ⟨Nat.zero_le _, Nat.zero_le _⟩ rfl rfl (fun H locs hP hD hS => ?_)
                refine lv_if_eq (tgt := 140) hx hb dX9_findTimes_114 (by decide) (fun c114 => ?_) (fun c114 => ?_)
                · have hM := g_pos c114 hM
                  refine lv_iinc (v := x5_96 + (1 : Int32)) (lv' := [(5, .int (x5_96 + (1 : Int32))), (0, .ref h0), (1, .int p1), (2, .int p2), (3, .int x3_2), (4, .int ((94 : Int32) * r16))]) hx hb dX9_findTimes_140 hl (k := 5) rfl rfl (by decide) rfl (fun ls hl => ?_)
                  refine lv_goto (tgt := 96) hx hb dX9_findTimes_143 (by decide) ?_
                  exact ih96 (x5_96 + (1 : Int32)) v_can_96 v_can_e96 _ _ _ hM hP hD hS (lv_sub hl [1, 2, 3, 4, 5, 0] rfl) K
                · have hM := g_neg c114 hM
                  refine lv_aload_n hx hb dX9_findTimes_117 rfl (lv_at hl 0 rfl) ?_
                  refine lv_iload hx hb dX9_findTimes_118 (lv_at hl 4 rfl) ?_
                  refine lv_bipush (v := 94) hx hb dX9_findTimes_120 (by decide) ?_
                  refine lv_iload_n hx hb dX9_findTimes_122 rfl (lv_at hl 1 rfl) ?_
                  refine lv_iconst (v := 1) hx hb dX9_findTimes_123 (by decide) ?_
                  refine lv_isub hx hb dX9_findTimes_124 ?_
                  refine lv_iload hx hb dX9_findTimes_125 (lv_at hl 5 rfl) ?_
                  obtain ⟨r127, hc127, hM⟩ := ob1_some hM
                  refine cl_si (As := [.int (p1 - (1 : Int32)), .int x5_96]) (rest := [.int (94 : Int32), .int ((94 : Int32) * r16), .ref h0]) (wr := [(h0, .inr (9, [oh0_0, oh0_1, oh0_2, .ref h0_parts, .ref h0_rates, .ref h0_ways, oh0_6, oh0_7, oh0_8, oh0_9, oh0_10, oh0_11, oh0_12, oh0_13, oh0_14, oh0_15, oh0_16, oh0_17, oh0_18, oh0_19, oh0_20, oh0_21, oh0_22, oh0_23, oh0_24, oh0_25, oh0_26, oh0_27, .ref h0_can, oh0_29, oh0_30, oh0_31, oh0_32, oh0_33, oh0_34, oh0_35, oh0_36, oh0_37])), (h0_parts, .inl (cy 2, 2, .inl v_parts)), (h0_rates, .inl (cy 2, 14, .inl v_rates)), (h0_ways, .inl (cy 2, 14, .inl v_ways)), (h0_can, .inl (cy 3, 26978, .inr (.inl v_can_96)))]) (ws2 := [(h0, .inr (9, [oh0_0, oh0_1, oh0_2, .ref h0_parts, .ref h0_rates, .ref h0_ways, oh0_6, oh0_7, oh0_8, oh0_9, oh0_10, oh0_11, oh0_12, oh0_13, oh0_14, oh0_15, oh0_16, oh0_17, oh0_18, oh0_19, oh0_20, oh0_21, oh0_22, oh0_23, oh0_24, oh0_25, oh0_26, oh0_27, .ref h0_can, oh0_29, oh0_30, oh0_31, oh0_32, oh0_33, oh0_34, oh0_35, oh0_36, oh0_37])), (h0_parts, .inl (cy 2, 2, .inl v_parts)), (h0_rates, .inl (cy 2, 14, .inl v_rates)), (h0_ways, .inl (cy 2, 14, .inl v_ways)), (h0_can, .inl (cy 3, 26978, .inr (.inl v_can_96)))]) (isC := []) (isR := [0, 1, 2, 3, 4]) (pm := [0, 1, 2, 3, 4]) hx hb hml hown hts (c9_index l D cy N (p1 - (1 : Int32)) x5_96 r127 hc127) (va_cwS 2 hts gX9_findTimes_X9_index rfl rfl rfl (by decide +kernel) ⟨Nat.le_of_ble_eq_true rfl, Nat.le_of_ble_eq_true rfl⟩) hK hP hD hS hA rfl rfl rfl (by decide) rfl rfl rfl hl.1 (Nat.le_of_ble_eq_true rfl) dX9_findTimes_127 ⟨Nat.zero_le _, Nat.zero_le _⟩ rfl rfl (fun H locs hP hD hS => ?_)
                  refine lv_imul hx hb dX9_findTimes_130 ?_
                  refine lv_aload_n hx hb dX9_findTimes_131 rfl (lv_at hl 0 rfl) ?_
                  refine va_get (D := D) (ci := 9) (v := .ref h0_rates) (C := RX9) (T := TX9) (N := 38) hx hb hts iX9 hown hK hP 0 rfl rfl 4 (by decide) k17 (fun _ h9 => h9) rfl dX9_findTimes_132 ?_
                  refine lv_iload_n hx hb dX9_findTimes_135 rfl (lv_at hl 3 rfl) ?_
                  obtain ⟨h136, hM⟩ := gi_some hM
                  refine va_iald hx hb hK hP 2 2 rfl rfl h136 dX9_findTimes_136 ?_
                  obtain ⟨v_can_137, hc137, hM⟩ := ob1_some hM
                  refine cl_vv (As := [.int ((94 : Int32) * r16), .int ((94 : Int32) * r127), .int (v_rates x3_2.toNatClampNeg)]) (rest := []) (ci := 9) (q0 := 0) (wr := [(h0_parts, .inl (cy 2, 2, .inl v_parts)), (h0_rates, .inl (cy 2, 14, .inl v_rates)), (h0_ways, .inl (cy 2, 14, .inl v_ways))]) (ws2 := [(h0, .inr (9, [oh0_0, oh0_1, oh0_2, .ref h0_parts, .ref h0_rates, .ref h0_ways, oh0_6, oh0_7, oh0_8, oh0_9, oh0_10, oh0_11, oh0_12, oh0_13, oh0_14, oh0_15, oh0_16, oh0_17, oh0_18, oh0_19, oh0_20, oh0_21, oh0_22, oh0_23, oh0_24, oh0_25, oh0_26, oh0_27, .ref h0_can, oh0_29, oh0_30, oh0_31, oh0_32, oh0_33, oh0_34, oh0_35, oh0_36, oh0_37])), (h0_parts, .inl (cy 2, 2, .inl v_parts)), (h0_rates, .inl (cy 2, 14, .inl v_rates)), (h0_ways, .inl (cy 2, 14, .inl v_ways)), (h0_can, .inl (cy 3, 26978, .inr (.inl v_can_137)))]) (isC := [0, 4]) (isR := [1, 2, 3]) (pm := [3, 0, 1, 2, 4]) hx hb hml hown hts (c9_addShifted l D cy N h0 h0_can oh0_0 oh0_1 oh0_2 (.ref h0_parts) (.ref h0_rates) (.ref h0_ways) oh0_6 oh0_7 oh0_8 oh0_9 oh0_10 oh0_11 oh0_12 oh0_13 oh0_14 oh0_15 oh0_16 oh0_17 oh0_18 oh0_19 oh0_20 oh0_21 oh0_22 oh0_23 oh0_24 oh0_25 oh0_26 oh0_27 oh0_29 oh0_30 oh0_31 oh0_32 oh0_33 oh0_34 oh0_35 oh0_36 oh0_37 ((94 : Int32) * r16) ((94 : Int32) * r127) (v_rates x3_2.toNatClampNeg) v_can_96 v_can_137 hc137) (cwV 3 hts gX9_findTimes_X9_addShifted rfl rfl rfl (by decide +kernel) ⟨Nat.le_of_ble_eq_true rfl, Nat.le_of_ble_eq_true rfl⟩) hK hP hD hS hA rfl rfl rfl rfl rfl (by decide) rfl rfl rfl hl.1 (Nat.le_of_ble_eq_true rfl) dX9_findTimes_137 ⟨Nat.zero_le _, Nat.zero_le _⟩ rfl rfl (fun H locs hP hD hS => ?_)
                  refine lv_iinc (v := x5_96 + (1 : Int32)) (lv' := [(5, .int (x5_96 + (1 : Int32))), (0, .ref h0), (1, .int p1), (2, .int p2), (3, .int x3_2), (4, .int ((94 : Int32) * r16))]) hx hb dX9_findTimes_140 hl (k := 5) rfl rfl (by decide) rfl (fun ls hl => ?_)
                  refine lv_goto (tgt := 96) hx hb dX9_findTimes_143 (by decide) ?_
                  exact ih96 (x5_96 + (1 : Int32)) v_can_137 v_can_e96 _ _ _ hM hP hD hS (lv_sub hl [1, 2, 3, 4, 5, 0] rfl) K
          obtain ⟨v_can_e96, hL96, hM⟩ := ob1_some hM
          refine L96 N (0 : Int32) v_can_e25 v_can_e96 _ _ _ hL96 hP hD hS (lv_sub hl [1, 2, 3, 4, 5, 0] rfl) ?_
          intro H locs ls hP hD hS hl
          refine lv_iinc (v := x3_2 + (1 : Int32)) (lv' := [(3, .int (x3_2 + (1 : Int32))), (0, .ref h0), (1, .int p1), (2, .int p2)]) hx hb dX9_findTimes_146 hl (k := 3) rfl rfl (by decide) rfl (fun ls hl => ?_)
          refine lv_goto (tgt := 2) hx hb dX9_findTimes_149 (by decide) ?_
          exact ih2 (x3_2 + (1 : Int32)) v_can_e96 v_can_e2 _ _ _ hM hP hD hS (lv_sub hl [1, 2, 3, 0] rfl) K
        · have hM := g_pos c51 hM
          refine lv_iload_n hx hb dX9_findTimes_54 rfl (lv_at hl 3 rfl) ?_
          refine lv_iload_n hx hb dX9_findTimes_55 rfl (lv_at hl 2 rfl) ?_
          refine lv_icmp_ne (tgt := 146) hx hb dX9_findTimes_56 (by decide) (fun c56 => ?_) (fun c56 => ?_)
          · have hM := g_neg c56 hM
            refine lv_iinc (v := x3_2 + (1 : Int32)) (lv' := [(3, .int (x3_2 + (1 : Int32))), (0, .ref h0), (1, .int p1), (2, .int p2), (4, .int ((94 : Int32) * r16))]) hx hb dX9_findTimes_146 hl (k := 3) rfl rfl (by decide) rfl (fun ls hl => ?_)
            refine lv_goto (tgt := 2) hx hb dX9_findTimes_149 (by decide) ?_
            exact ih2 (x3_2 + (1 : Int32)) v_can_e25 v_can_e2 _ _ _ hM hP hD hS (lv_sub hl [1, 2, 3, 0] rfl) K
          · have hM := g_pos c56 hM
            refine lv_aload_n hx hb dX9_findTimes_59 rfl (lv_at hl 0 rfl) ?_
            refine va_get (D := D) (ci := 9) (v := .ref h0_can) (C := RX9) (T := TX9) (N := 38) hx hb hts iX9 hown hK hP 0 rfl rfl 28 (by decide) k66 (fun _ h9 => h9) rfl dX9_findTimes_60 ?_
            refine lv_iload hx hb dX9_findTimes_63 (lv_at hl 4 rfl) ?_
            refine lv_aload_n hx hb dX9_findTimes_65 rfl (lv_at hl 0 rfl) ?_
            refine va_get (D := D) (ci := 9) (v := .ref h0_rates) (C := RX9) (T := TX9) (N := 38) hx hb hts iX9 hown hK hP 0 rfl rfl 4 (by decide) k17 (fun _ h9 => h9) rfl dX9_findTimes_66 ?_
            refine lv_iload_n hx hb dX9_findTimes_69 rfl (lv_at hl 3 rfl) ?_
            obtain ⟨h70, hM⟩ := gi_some hM
            refine va_iald hx hb hK hP 2 2 rfl rfl h70 dX9_findTimes_70 ?_
            refine lv_bipush (v := 64) hx hb dX9_findTimes_71 (by decide) ?_
            refine lv_idiv hx hb dX9_findTimes_73 (by decide) ?_
            refine lv_iadd hx hb dX9_findTimes_74 ?_
            refine lv_dup2_11 hx hb dX9_findTimes_75 rfl rfl ?_
            obtain ⟨h76, hM⟩ := gi_some hM
            refine va_lald hx hb hK hP 4 3 rfl rfl h76 dX9_findTimes_76 ?_
            refine lv_lconst (v := 1) hx hb dX9_findTimes_77 (by decide) ?_
            refine lv_aload_n hx hb dX9_findTimes_78 rfl (lv_at hl 0 rfl) ?_
            refine va_get (D := D) (ci := 9) (v := .ref h0_rates) (C := RX9) (T := TX9) (N := 38) hx hb hts iX9 hown hK hP 0 rfl rfl 4 (by decide) k17 (fun _ h9 => h9) rfl dX9_findTimes_79 ?_
            refine lv_iload_n hx hb dX9_findTimes_82 rfl (lv_at hl 3 rfl) ?_
            obtain ⟨h83, hM⟩ := gi_some hM
            refine va_iald hx hb hK hP 2 2 rfl rfl h83 dX9_findTimes_83 ?_
            refine lv_bipush (v := 64) hx hb dX9_findTimes_84 (by decide) ?_
            refine lv_irem hx hb dX9_findTimes_86 (by decide) ?_
            refine lv_lshl (v := ((1 : Int64) <<< (((v_rates x3_2.toNatClampNeg) - (v_rates x3_2.toNatClampNeg) / (64 : Int32) * (64 : Int32)).toInt64 &&& 63))) hx hb dX9_findTimes_87 rfl ?_
            refine lv_lor hx hb dX9_findTimes_88 ?_
            obtain ⟨h89, hM⟩ := gi_some hM
            refine va_last hx hb hK hP hD hS 4 3 rfl rfl h89 dX9_findTimes_89 (fun H locs hP hD hS => ?_)
            have hP : va_P D vwCl [(h0, .inr (9, [oh0_0, oh0_1, oh0_2, .ref h0_parts, .ref h0_rates, .ref h0_ways, oh0_6, oh0_7, oh0_8, oh0_9, oh0_10, oh0_11, oh0_12, oh0_13, oh0_14, oh0_15, oh0_16, oh0_17, oh0_18, oh0_19, oh0_20, oh0_21, oh0_22, oh0_23, oh0_24, oh0_25, oh0_26, oh0_27, .ref h0_can, oh0_29, oh0_30, oh0_31, oh0_32, oh0_33, oh0_34, oh0_35, oh0_36, oh0_37])), (h0_parts, .inl (cy 2, 2, .inl v_parts)), (h0_rates, .inl (cy 2, 14, .inl v_rates)), (h0_ways, .inl (cy 2, 14, .inl v_ways)), (h0_can, .inl (cy 3, 26978, .inr (.inl (vp_updL v_can_e25 (((94 : Int32) * r16) + ((v_rates x3_2.toNatClampNeg) / (64 : Int32))).toNatClampNeg ((v_can_e25 (((94 : Int32) * r16) + ((v_rates x3_2.toNatClampNeg) / (64 : Int32))).toNatClampNeg) ||| ((1 : Int64) <<< (((v_rates x3_2.toNatClampNeg) - (v_rates x3_2.toNatClampNeg) / (64 : Int32) * (64 : Int32)).toInt64 &&& 63)))))))] H := hP
            have hD : va_D A [(h0, .inr (9, [oh0_0, oh0_1, oh0_2, .ref h0_parts, .ref h0_rates, .ref h0_ways, oh0_6, oh0_7, oh0_8, oh0_9, oh0_10, oh0_11, oh0_12, oh0_13, oh0_14, oh0_15, oh0_16, oh0_17, oh0_18, oh0_19, oh0_20, oh0_21, oh0_22, oh0_23, oh0_24, oh0_25, oh0_26, oh0_27, .ref h0_can, oh0_29, oh0_30, oh0_31, oh0_32, oh0_33, oh0_34, oh0_35, oh0_36, oh0_37])), (h0_parts, .inl (cy 2, 2, .inl v_parts)), (h0_rates, .inl (cy 2, 14, .inl v_rates)), (h0_ways, .inl (cy 2, 14, .inl v_ways)), (h0_can, .inl (cy 3, 26978, .inr (.inl (vp_updL v_can_e25 (((94 : Int32) * r16) + ((v_rates x3_2.toNatClampNeg) / (64 : Int32))).toNatClampNeg ((v_can_e25 (((94 : Int32) * r16) + ((v_rates x3_2.toNatClampNeg) / (64 : Int32))).toNatClampNeg) ||| ((1 : Int64) <<< (((v_rates x3_2.toNatClampNeg) - (v_rates x3_2.toNatClampNeg) / (64 : Int32) * (64 : Int32)).toInt64 &&& 63)))))))] := hD
            refine lv_goto (tgt := 146) hx hb dX9_findTimes_90 (by decide) ?_
            refine lv_iinc (v := x3_2 + (1 : Int32)) (lv' := [(3, .int (x3_2 + (1 : Int32))), (0, .ref h0), (1, .int p1), (2, .int p2), (4, .int ((94 : Int32) * r16))]) hx hb dX9_findTimes_146 hl (k := 3) rfl rfl (by decide) rfl (fun ls hl => ?_)
            refine lv_goto (tgt := 2) hx hb dX9_findTimes_149 (by decide) ?_
            exact ih2 (x3_2 + (1 : Int32)) (vp_updL v_can_e25 (((94 : Int32) * r16) + ((v_rates x3_2.toNatClampNeg) / (64 : Int32))).toNatClampNeg ((v_can_e25 (((94 : Int32) * r16) + ((v_rates x3_2.toNatClampNeg) / (64 : Int32))).toNatClampNeg) ||| ((1 : Int64) <<< (((v_rates x3_2.toNatClampNeg) - (v_rates x3_2.toNatClampNeg) / (64 : Int32) * (64 : Int32)).toInt64 &&& 63)))) v_can_e2 _ _ _ hM hP hD hS (lv_sub hl [1, 2, 3, 0] rfl) K
  obtain ⟨v_can_e2, hL2, hM⟩ := ob1_some hM
  refine L2 N (0 : Int32) v_can v_can_e2 _ _ _ hL2 hP hD hS (lv_sub hl [1, 2, 3, 0] rfl) ?_
  intro H locs ls hP hD hS hl
  obtain rfl := si1 hM
  exact hret _ _ _ _ dX9_findTimes_152 hP hD hS
