-- ===== X9_alike alike (I)I =====
abbrev r9_alike : Room := { frames := 0, cells := 0, slots := 0, locals := 0 }
def f9_alike_L4 (N : Nat) (p1 : Int32) (v_parts : Nat → Int32) (v_rates : Nat → Int32) : Nat → Int32 → Int32 → Option Int32
  | 0, _, _ => none
  | n + 1, x2_4, x3_4 => gi (0 : Int32) 2 (if (v_parts (0 : Int32).toNatClampNeg) ≤ x3_4 then (some x2_4) else (if x3_4 = p1 then ((f9_alike_L4 N p1 v_parts v_rates n) (x2_4 ||| (0 : Int32)) (x3_4 + (1 : Int32))) else (gi x3_4 14 (gi p1 14 (if (v_rates x3_4.toNatClampNeg) = (v_rates p1.toNatClampNeg) then ((f9_alike_L4 N p1 v_parts v_rates n) (x2_4 ||| ((1 : Int32) <<< (x3_4 &&& 31))) (x3_4 + (1 : Int32))) else ((f9_alike_L4 N p1 v_parts v_rates n) (x2_4 ||| (0 : Int32)) (x3_4 + (1 : Int32))))))))
def f9_alike (N : Nat) (p1 : Int32) (v_parts : Nat → Int32) (v_rates : Nat → Int32) : Option Int32 :=
  ob1 (f9_alike_L4 N p1 v_parts v_rates N (0 : Int32) (0 : Int32)) fun e2_4 => some e2_4
set_option maxHeartbeats 4000000 in
set_option maxRecDepth 100000 in
theorem c9_alike (l : Launch) (D : va_G) (cy : Nat → ClassId) (N : Nat) (h0 h0_parts h0_rates : Nat) (oh0_0 oh0_1 oh0_2 oh0_5 oh0_6 oh0_7 oh0_8 oh0_9 oh0_10 oh0_11 oh0_12 oh0_13 oh0_14 oh0_15 oh0_16 oh0_17 oh0_18 oh0_19 oh0_20 oh0_21 oh0_22 oh0_23 oh0_24 oh0_25 oh0_26 oh0_27 oh0_28 oh0_29 oh0_30 oh0_31 oh0_32 oh0_33 oh0_34 oh0_35 oh0_36 oh0_37 : Value) (p1 : Int32) (v_parts : Nat → Int32) (v_rates : Nat → Int32) (r : Int32) (hM : f9_alike N p1 v_parts v_rates = some r) (sz : Nat) : CTi l yX9_alike wsX9_alike r9_alike [.ref h0, .int p1] D cy sz [(h0, .inr (9, [oh0_0, oh0_1, oh0_2, .ref h0_parts, .ref h0_rates, oh0_5, oh0_6, oh0_7, oh0_8, oh0_9, oh0_10, oh0_11, oh0_12, oh0_13, oh0_14, oh0_15, oh0_16, oh0_17, oh0_18, oh0_19, oh0_20, oh0_21, oh0_22, oh0_23, oh0_24, oh0_25, oh0_26, oh0_27, oh0_28, oh0_29, oh0_30, oh0_31, oh0_32, oh0_33, oh0_34, oh0_35, oh0_36, oh0_37])), (h0_parts, .inl (cy 2, 2, .inl v_parts)), (h0_rates, .inl (cy 2, 14, .inl v_rates))] [(h0, .inr (9, [oh0_0, oh0_1, oh0_2, .ref h0_parts, .ref h0_rates, oh0_5, oh0_6, oh0_7, oh0_8, oh0_9, oh0_10, oh0_11, oh0_12, oh0_13, oh0_14, oh0_15, oh0_16, oh0_17, oh0_18, oh0_19, oh0_20, oh0_21, oh0_22, oh0_23, oh0_24, oh0_25, oh0_26, oh0_27, oh0_28, oh0_29, oh0_30, oh0_31, oh0_32, oh0_33, oh0_34, oh0_35, oh0_36, oh0_37])), (h0_parts, .inl (cy 2, 2, .inl v_parts)), (h0_rates, .inl (cy 2, 14, .inl v_rates))] r := by
  unfold f9_alike at hM
  refine ct_oi (cc := cX9_alike) (maxL := 4) (ty := .int) (by decide +kernel) rfl (Nat.le_of_ble_eq_true rfl) (lv0 := [(0, .ref h0), (1, .int p1)]) rfl ?_
  intro p e s m args below meth c A Q ls hx hb hts hown hml hK hP hD hS hA hret hl
  have hown : s.vm.findClass RX9 = some m.cls := hown
  have k13 := hts (.fieldLink RX9 13 "CaveYearsModel" "parts" "[I") (List.mem_of_getElem? (i := 1) (by decide +kernel))
  have iX9 := (fun w h => (List.mem_cons_of_mem _ (List.mem_append_right _ h)) : ∀ w ∈ wsX90, w ∈ wsX9_alike)
  have k17 := hts (.fieldLink RX9 17 "CaveYearsModel" "rates" "[I") (List.mem_of_getElem? (i := 2) (by decide +kernel))
  refine lv_iconst (v := 0) hx hb dX9_alike_0 (by decide) ?_
  refine lv_istore_n (lv' := [(2, .int (0 : Int32)), (0, .ref h0), (1, .int p1)]) hx hb dX9_alike_1 rfl hl (by decide) rfl (fun ls hl => ?_)
  refine lv_iconst (v := 0) hx hb dX9_alike_2 (by decide) ?_
  refine lv_istore_n (lv' := [(3, .int (0 : Int32)), (2, .int (0 : Int32)), (0, .ref h0), (1, .int p1)]) hx hb dX9_alike_3 rfl hl (by decide) rfl (fun ls hl => ?_)
  have L4 : ∀ (n : Nat) (x2_4 : Int32) (x3_4 : Int32) (e2_4 : Int32) (H : Heap) (locs : List Loc) (ls : Array Slot), f9_alike_L4 N p1 v_parts v_rates n x2_4 x3_4 = some e2_4 → va_P D vwCl [(h0, .inr (9, [oh0_0, oh0_1, oh0_2, .ref h0_parts, .ref h0_rates, oh0_5, oh0_6, oh0_7, oh0_8, oh0_9, oh0_10, oh0_11, oh0_12, oh0_13, oh0_14, oh0_15, oh0_16, oh0_17, oh0_18, oh0_19, oh0_20, oh0_21, oh0_22, oh0_23, oh0_24, oh0_25, oh0_26, oh0_27, oh0_28, oh0_29, oh0_30, oh0_31, oh0_32, oh0_33, oh0_34, oh0_35, oh0_36, oh0_37])), (h0_parts, .inl (cy 2, 2, .inl v_parts)), (h0_rates, .inl (cy 2, 14, .inl v_rates))] H → va_D A [(h0, .inr (9, [oh0_0, oh0_1, oh0_2, .ref h0_parts, .ref h0_rates, oh0_5, oh0_6, oh0_7, oh0_8, oh0_9, oh0_10, oh0_11, oh0_12, oh0_13, oh0_14, oh0_15, oh0_16, oh0_17, oh0_18, oh0_19, oh0_20, oh0_21, oh0_22, oh0_23, oh0_24, oh0_25, oh0_26, oh0_27, oh0_28, oh0_29, oh0_30, oh0_31, oh0_32, oh0_33, oh0_34, oh0_35, oh0_36, oh0_37])), (h0_parts, .inl (cy 2, 2, .inl v_parts)), (h0_rates, .inl (cy 2, 14, .inl v_rates))] → va_S A s.heap H locs → lv_has ls 4 [(0, .ref h0), (1, .int p1), (2, .int x2_4), (3, .int x3_4)] → (∀ (H : Heap) (locs : List Loc) (ls : Array Slot), va_P D vwCl [(h0, .inr (9, [oh0_0, oh0_1, oh0_2, .ref h0_parts, .ref h0_rates, oh0_5, oh0_6, oh0_7, oh0_8, oh0_9, oh0_10, oh0_11, oh0_12, oh0_13, oh0_14, oh0_15, oh0_16, oh0_17, oh0_18, oh0_19, oh0_20, oh0_21, oh0_22, oh0_23, oh0_24, oh0_25, oh0_26, oh0_27, oh0_28, oh0_29, oh0_30, oh0_31, oh0_32, oh0_33, oh0_34, oh0_35, oh0_36, oh0_37])), (h0_parts, .inl (cy 2, 2, .inl v_parts)), (h0_rates, .inl (cy 2, 14, .inl v_rates))] H → va_D A [(h0, .inr (9, [oh0_0, oh0_1, oh0_2, .ref h0_parts, .ref h0_rates, oh0_5, oh0_6, oh0_7, oh0_8, oh0_9, oh0_10, oh0_11, oh0_12, oh0_13, oh0_14, oh0_15, oh0_16, oh0_17, oh0_18, oh0_19, oh0_20, oh0_21, oh0_22, oh0_23, oh0_24, oh0_25, oh0_26, oh0_27, oh0_28, oh0_29, oh0_30, oh0_31, oh0_32, oh0_33, oh0_34, oh0_35, oh0_36, oh0_37])), (h0_parts, .inl (cy 2, 2, .inl v_parts)), (h0_rates, .inl (cy 2, 14, .inl v_rates))] → va_S A s.heap H locs → lv_has ls 4 [(2, .int e2_4)] → W p l e r9_alike s m args below meth c H locs 0 0 Q (F0 m 50 ls [])) → W p l e r9_alike s m args below meth c H locs 0 0 Q (F0 m 4 ls []) := by
    intro n4
    induction n4 with
    | zero =>
      intro x2_4 x3_4 e2_4 H locs ls hM
      exact absurd hM (by simp [f9_alike_L4])
    | succ n4 ih4 =>
      intro x2_4 x3_4 e2_4 H locs ls hM hP hD hS hl K
      rw [f9_alike_L4] at hM
      refine lv_iload_n hx hb dX9_alike_4 rfl (lv_at hl 3 rfl) ?_
      refine lv_aload_n hx hb dX9_alike_5 rfl (lv_at hl 0 rfl) ?_
      refine va_get (D := D) (ci := 9) (v := .ref h0_parts) (C := RX9) (T := TX9) (N := 38) hx hb hts iX9 hown hK hP 0 rfl rfl 3 (by decide) k13 (fun _ h9 => h9) rfl dX9_alike_6 ?_
      refine lv_iconst (v := 0) hx hb dX9_alike_9 (by decide) ?_
      obtain ⟨h10, hM⟩ := gi_some hM
      refine va_iald hx hb hK hP 1 2 rfl rfl h10 dX9_alike_10 ?_
      refine lv_icmp_ge (tgt := 50) hx hb dX9_alike_11 (by decide) (fun c11 => ?_) (fun c11 => ?_)
      · have hM := g_pos c11 hM
        obtain rfl := si1 hM
        exact K _ _ _ hP hD hS (lv_sub hl [2] rfl)
      · have hM := g_neg c11 hM
        refine lv_iload_n hx hb dX9_alike_14 rfl (lv_at hl 2 rfl) ?_
        refine lv_iload_n hx hb dX9_alike_15 rfl (lv_at hl 3 rfl) ?_
        refine lv_iload_n hx hb dX9_alike_16 rfl (lv_at hl 1 rfl) ?_
        refine lv_icmp_eq (tgt := 41) hx hb dX9_alike_17 (by decide) (fun c17 => ?_) (fun c17 => ?_)
        · have hM := g_pos c17 hM
          refine lv_iconst (v := 0) hx hb dX9_alike_41 (by decide) ?_
          refine lv_ior hx hb dX9_alike_42 ?_
          refine lv_istore_n (lv' := [(2, .int (x2_4 ||| (0 : Int32))), (0, .ref h0), (1, .int p1), (3, .int x3_4)]) hx hb dX9_alike_43 rfl hl (by decide) rfl (fun ls hl => ?_)
          refine lv_iinc (v := x3_4 + (1 : Int32)) (lv' := [(3, .int (x3_4 + (1 : Int32))), (2, .int (x2_4 ||| (0 : Int32))), (0, .ref h0), (1, .int p1)]) hx hb dX9_alike_44 hl (k := 3) rfl rfl (by decide) rfl (fun ls hl => ?_)
          refine lv_goto (tgt := 4) hx hb dX9_alike_47 (by decide) ?_
          exact ih4 (x2_4 ||| (0 : Int32)) (x3_4 + (1 : Int32)) e2_4 _ _ _ hM hP hD hS (lv_sub hl [2, 3, 1, 0] rfl) K
        · have hM := g_neg c17 hM
          refine lv_aload_n hx hb dX9_alike_20 rfl (lv_at hl 0 rfl) ?_
          refine va_get (D := D) (ci := 9) (v := .ref h0_rates) (C := RX9) (T := TX9) (N := 38) hx hb hts iX9 hown hK hP 0 rfl rfl 4 (by decide) k17 (fun _ h9 => h9) rfl dX9_alike_21 ?_
          refine lv_iload_n hx hb dX9_alike_24 rfl (lv_at hl 3 rfl) ?_
          obtain ⟨h25, hM⟩ := gi_some hM
          refine va_iald hx hb hK hP 2 2 rfl rfl h25 dX9_alike_25 ?_
          refine lv_aload_n hx hb dX9_alike_26 rfl (lv_at hl 0 rfl) ?_
          refine va_get (D := D) (ci := 9) (v := .ref h0_rates) (C := RX9) (T := TX9) (N := 38) hx hb hts iX9 hown hK hP 0 rfl rfl 4 (by decide) k17 (fun _ h9 => h9) rfl dX9_alike_27 ?_
          refine lv_iload_n hx hb dX9_alike_30 rfl (lv_at hl 1 rfl) ?_
          obtain ⟨h31, hM⟩ := gi_some hM
          refine va_iald hx hb hK hP 2 2 rfl rfl h31 dX9_alike_31 ?_
          refine lv_icmp_ne (tgt := 41) hx hb dX9_alike_32 (by decide) (fun c32 => ?_) (fun c32 => ?_)
          · have hM := g_neg c32 hM
            refine lv_iconst (v := 0) hx hb dX9_alike_41 (by decide) ?_
            refine lv_ior hx hb dX9_alike_42 ?_
            refine lv_istore_n (lv' := [(2, .int (x2_4 ||| (0 : Int32))), (0, .ref h0), (1, .int p1), (3, .int x3_4)]) hx hb dX9_alike_43 rfl hl (by decide) rfl (fun ls hl => ?_)
            refine lv_iinc (v := x3_4 + (1 : Int32)) (lv' := [(3, .int (x3_4 + (1 : Int32))), (2, .int (x2_4 ||| (0 : Int32))), (0, .ref h0), (1, .int p1)]) hx hb dX9_alike_44 hl (k := 3) rfl rfl (by decide) rfl (fun ls hl => ?_)
            refine lv_goto (tgt := 4) hx hb dX9_alike_47 (by decide) ?_
            exact ih4 (x2_4 ||| (0 : Int32)) (x3_4 + (1 : Int32)) e2_4 _ _ _ hM hP hD hS (lv_sub hl [2, 3, 1, 0] rfl) K
          · have hM := g_pos c32 hM
            refine lv_iconst (v := 1) hx hb dX9_alike_35 (by decide) ?_
            refine lv_iload_n hx hb dX9_alike_36 rfl (lv_at hl 3 rfl) ?_
            refine lv_ishl hx hb dX9_alike_37 ?_
            refine lv_goto (tgt := 42) hx hb dX9_alike_38 (by decide) ?_
            refine lv_ior hx hb dX9_alike_42 ?_
            refine lv_istore_n (lv' := [(2, .int (x2_4 ||| ((1 : Int32) <<< (x3_4 &&& 31)))), (0, .ref h0), (1, .int p1), (3, .int x3_4)]) hx hb dX9_alike_43 rfl hl (by decide) rfl (fun ls hl => ?_)
            refine lv_iinc (v := x3_4 + (1 : Int32)) (lv' := [(3, .int (x3_4 + (1 : Int32))), (2, .int (x2_4 ||| ((1 : Int32) <<< (x3_4 &&& 31)))), (0, .ref h0), (1, .int p1)]) hx hb dX9_alike_44 hl (k := 3) rfl rfl (by decide) rfl (fun ls hl => ?_)
            refine lv_goto (tgt := 4) hx hb dX9_alike_47 (by decide) ?_
            exact ih4 (x2_4 ||| ((1 : Int32) <<< (x3_4 &&& 31))) (x3_4 + (1 : Int32)) e2_4 _ _ _ hM hP hD hS (lv_sub hl [2, 3, 1, 0] rfl) K
  obtain ⟨e2_4, hL4, hM⟩ := ob1_some hM
  refine L4 N (0 : Int32) (0 : Int32) e2_4 _ _ _ hL4 hP hD hS (lv_sub hl [2, 3, 1, 0] rfl) ?_
  intro H locs ls hP hD hS hl
  refine lv_iload_n hx hb dX9_alike_50 rfl (lv_at hl 0 rfl) ?_
  obtain rfl := si1 hM
  exact hret _ _ _ _ _ dX9_alike_51 rfl rfl hP hD hS

-- ===== X9_part part (II)I =====
abbrev r9_part : Room := { frames := 2, cells := 0, slots := 0, locals := 43 }
def f9_part (N : Nat) (p1 : Int32) (p2 : Int32) (v_parts : Nat → Int32) (v_rates : Nat → Int32) (v_ways : Nat → Int32) : Option Int32 :=
  ob1 (f9_isPart N p1 v_parts) fun r2 => if r2 = (0 : Int32) then (some (-1000000001 : Int32)) else (if p2 = (0 : Int32) then (gi p1 14 (some (v_rates p1.toNatClampNeg))) else (if p2 = (1 : Int32) then (gi p1 14 (some (v_ways p1.toNatClampNeg))) else (if p2 = (2 : Int32) then (ob1 (f9_alike N p1 v_parts v_rates) fun r45 => some r45) else (some (-1000000002 : Int32)))))
set_option maxHeartbeats 4000000 in
set_option maxRecDepth 100000 in
theorem c9_part (l : Launch) (D : va_G) (cy : Nat → ClassId) (N : Nat) (h0 h0_parts h0_rates h0_ways : Nat) (oh0_0 oh0_1 oh0_2 oh0_6 oh0_7 oh0_8 oh0_9 oh0_10 oh0_11 oh0_12 oh0_13 oh0_14 oh0_15 oh0_16 oh0_17 oh0_18 oh0_19 oh0_20 oh0_21 oh0_22 oh0_23 oh0_24 oh0_25 oh0_26 oh0_27 oh0_28 oh0_29 oh0_30 oh0_31 oh0_32 oh0_33 oh0_34 oh0_35 oh0_36 oh0_37 : Value) (p1 : Int32) (p2 : Int32) (v_parts : Nat → Int32) (v_rates : Nat → Int32) (v_ways : Nat → Int32) (r : Int32) (hM : f9_part N p1 p2 v_parts v_rates v_ways = some r) (sz : Nat) : CTi l yX9_part wsX9_part r9_part [.ref h0, .int p1, .int p2] D cy sz [(h0, .inr (9, [oh0_0, oh0_1, oh0_2, .ref h0_parts, .ref h0_rates, .ref h0_ways, oh0_6, oh0_7, oh0_8, oh0_9, oh0_10, oh0_11, oh0_12, oh0_13, oh0_14, oh0_15, oh0_16, oh0_17, oh0_18, oh0_19, oh0_20, oh0_21, oh0_22, oh0_23, oh0_24, oh0_25, oh0_26, oh0_27, oh0_28, oh0_29, oh0_30, oh0_31, oh0_32, oh0_33, oh0_34, oh0_35, oh0_36, oh0_37])), (h0_parts, .inl (cy 2, 2, .inl v_parts)), (h0_rates, .inl (cy 2, 14, .inl v_rates)), (h0_ways, .inl (cy 2, 14, .inl v_ways))] [(h0, .inr (9, [oh0_0, oh0_1, oh0_2, .ref h0_parts, .ref h0_rates, .ref h0_ways, oh0_6, oh0_7, oh0_8, oh0_9, oh0_10, oh0_11, oh0_12, oh0_13, oh0_14, oh0_15, oh0_16, oh0_17, oh0_18, oh0_19, oh0_20, oh0_21, oh0_22, oh0_23, oh0_24, oh0_25, oh0_26, oh0_27, oh0_28, oh0_29, oh0_30, oh0_31, oh0_32, oh0_33, oh0_34, oh0_35, oh0_36, oh0_37])), (h0_parts, .inl (cy 2, 2, .inl v_parts)), (h0_rates, .inl (cy 2, 14, .inl v_rates)), (h0_ways, .inl (cy 2, 14, .inl v_ways))] r := by
  unfold f9_part at hM
  refine ct_oi (cc := cX9_part) (maxL := 3) (ty := .int) (by decide +kernel) rfl (Nat.le_of_ble_eq_true rfl) (lv0 := [(0, .ref h0), (1, .int p1), (2, .int p2)]) rfl ?_
  intro p e s m args below meth c A Q ls hx hb hts hown hml hK hP hD hS hA hret hl
  have hown : s.vm.findClass RX9 = some m.cls := hown
  have k99 := hts (.constant RX9 99 (-1000000002)) (List.mem_of_getElem? (i := 4) (by decide +kernel))
  have k20 := hts (.fieldLink RX9 20 "CaveYearsModel" "ways" "[I") (List.mem_of_getElem? (i := 3) (by decide +kernel))
  have iX9 := (fun w h => (List.mem_cons_of_mem _ (List.mem_append_right _ h)) : ∀ w ∈ wsX90, w ∈ wsX9_part)
  have k17 := hts (.fieldLink RX9 17 "CaveYearsModel" "rates" "[I") (List.mem_of_getElem? (i := 2) (by decide +kernel))
  have k180 := hts (.constant RX9 180 (-1000000001)) (List.mem_of_getElem? (i := 1) (by decide +kernel))
  refine lv_aload_n hx hb dX9_part_0 rfl (lv_at hl 0 rfl) ?_
  refine lv_iload_n hx hb dX9_part_1 rfl (lv_at hl 1 rfl) ?_
  obtain ⟨r2, hc2, hM⟩ := ob1_some hM
  refine cl_vi (As := [.int p1]) (rest := []) (ci := 9) (q0 := 0) (wr := [(h0_rates, .inl (cy 2, 14, .inl v_rates)), (h0_ways, .inl (cy 2, 14, .inl v_ways))]) (ws2 := [(h0, .inr (9, [oh0_0, oh0_1, oh0_2, .ref h0_parts, .ref h0_rates, .ref h0_ways, oh0_6, oh0_7, oh0_8, oh0_9, oh0_10, oh0_11, oh0_12, oh0_13, oh0_14, oh0_15, oh0_16, oh0_17, oh0_18, oh0_19, oh0_20, oh0_21, oh0_22, oh0_23, oh0_24, oh0_25, oh0_26, oh0_27, oh0_28, oh0_29, oh0_30, oh0_31, oh0_32, oh0_33, oh0_34, oh0_35, oh0_36, oh0_37])), (h0_parts, .inl (cy 2, 2, .inl v_parts)), (h0_rates, .inl (cy 2, 14, .inl v_rates)), (h0_ways, .inl (cy 2, 14, .inl v_ways))]) (isC := [0, 1]) (isR := [2, 3]) (pm := [2, 3, 0, 1]) hx hb hml hown hts (c9_isPart l D cy N h0 h0_parts oh0_0 oh0_1 oh0_2 (.ref h0_rates) (.ref h0_ways) oh0_6 oh0_7 oh0_8 oh0_9 oh0_10 oh0_11 oh0_12 oh0_13 oh0_14 oh0_15 oh0_16 oh0_17 oh0_18 oh0_19 oh0_20 oh0_21 oh0_22 oh0_23 oh0_24 oh0_25 oh0_26 oh0_27 oh0_28 oh0_29 oh0_30 oh0_31 oh0_32 oh0_33 oh0_34 oh0_35 oh0_36 oh0_37 p1 v_parts r2 hc2) (cwV 1 hts gX9_part_X9_isPart rfl rfl rfl (by decide +kernel) ⟨Nat.le_of_ble_eq_true rfl, Nat.le_of_ble_eq_true rfl⟩) hK hP hD hS hA rfl rfl rfl rfl rfl (by decide) rfl rfl rfl hl.1 (Nat.le_of_ble_eq_true rfl) dX9_part_2 ⟨Nat.zero_le _, Nat.zero_le _⟩ rfl rfl (fun H locs hP hD hS => ?_)
  refine lv_if_ne (tgt := 11) hx hb dX9_part_5 (by decide) (fun c5 => ?_) (fun c5 => ?_)
  · have hM := g_neg c5 hM
    refine lv_iload_n hx hb dX9_part_11 rfl (lv_at hl 2 rfl) ?_
    refine lv_if_ne (tgt := 24) hx hb dX9_part_12 (by decide) (fun c12 => ?_) (fun c12 => ?_)
    · have hM := g_neg c12 hM
      refine lv_iload_n hx hb dX9_part_24 rfl (lv_at hl 2 rfl) ?_
      refine lv_iconst (v := 1) hx hb dX9_part_25 (by decide) ?_
      refine lv_icmp_ne (tgt := 38) hx hb dX9_part_26 (by decide) (fun c26 => ?_) (fun c26 => ?_)
      · have hM := g_neg c26 hM
        refine lv_iload_n hx hb dX9_part_38 rfl (lv_at hl 2 rfl) ?_
        refine lv_iconst (v := 2) hx hb dX9_part_39 (by decide) ?_
        refine lv_icmp_ne (tgt := 51) hx hb dX9_part_40 (by decide) (fun c40 => ?_) (fun c40 => ?_)
        · have hM := g_neg c40 hM
          refine lv_ldc (v := -1000000002) hx hb hown k99 dX9_part_51 ?_
          obtain rfl := si1 hM
          exact hret _ _ _ _ _ dX9_part_53 rfl rfl hP hD hS
        · have hM := g_pos c40 hM
          refine lv_aload_n hx hb dX9_part_43 rfl (lv_at hl 0 rfl) ?_
          refine lv_iload_n hx hb dX9_part_44 rfl (lv_at hl 1 rfl) ?_
          obtain ⟨r45, hc45, hM⟩ := ob1_some hM
          refine cl_vi (As := [.int p1]) (rest := []) (ci := 9) (q0 := 0) (wr := [(h0_ways, .inl (cy 2, 14, .inl v_ways))]) (ws2 := [(h0, .inr (9, [oh0_0, oh0_1, oh0_2, .ref h0_parts, .ref h0_rates, .ref h0_ways, oh0_6, oh0_7, oh0_8, oh0_9, oh0_10, oh0_11, oh0_12, oh0_13, oh0_14, oh0_15, oh0_16, oh0_17, oh0_18, oh0_19, oh0_20, oh0_21, oh0_22, oh0_23, oh0_24, oh0_25, oh0_26, oh0_27, oh0_28, oh0_29, oh0_30, oh0_31, oh0_32, oh0_33, oh0_34, oh0_35, oh0_36, oh0_37])), (h0_parts, .inl (cy 2, 2, .inl v_parts)), (h0_rates, .inl (cy 2, 14, .inl v_rates)), (h0_ways, .inl (cy 2, 14, .inl v_ways))]) (isC := [0, 1, 2]) (isR := [3]) (pm := [1, 2, 3, 0]) hx hb hml hown hts (c9_alike l D cy N h0 h0_parts h0_rates oh0_0 oh0_1 oh0_2 (.ref h0_ways) oh0_6 oh0_7 oh0_8 oh0_9 oh0_10 oh0_11 oh0_12 oh0_13 oh0_14 oh0_15 oh0_16 oh0_17 oh0_18 oh0_19 oh0_20 oh0_21 oh0_22 oh0_23 oh0_24 oh0_25 oh0_26 oh0_27 oh0_28 oh0_29 oh0_30 oh0_31 oh0_32 oh0_33 oh0_34 oh0_35 oh0_36 oh0_37 p1 v_parts v_rates r45 hc45) (cwV 1 hts gX9_part_X9_alike rfl rfl rfl (by decide +kernel) ⟨Nat.le_of_ble_eq_true rfl, Nat.le_of_ble_eq_true rfl⟩) hK hP hD hS hA rfl rfl rfl rfl rfl (by decide) rfl rfl rfl hl.1 (Nat.le_of_ble_eq_true rfl) dX9_part_45 ⟨Nat.zero_le _, Nat.zero_le _⟩ rfl rfl (fun H locs hP hD hS => ?_)
          refine lv_goto (tgt := 53) hx hb dX9_part_48 (by decide) ?_
          obtain rfl := si1 hM
          exact hret _ _ _ _ _ dX9_part_53 rfl rfl hP hD hS
      · have hM := g_pos c26 hM
        refine lv_aload_n hx hb dX9_part_29 rfl (lv_at hl 0 rfl) ?_
        refine va_get (D := D) (ci := 9) (v := .ref h0_ways) (C := RX9) (T := TX9) (N := 38) hx hb hts iX9 hown hK hP 0 rfl rfl 5 (by decide) k20 (fun _ h9 => h9) rfl dX9_part_30 ?_
        refine lv_iload_n hx hb dX9_part_33 rfl (lv_at hl 1 rfl) ?_
        obtain ⟨h34, hM⟩ := gi_some hM
        refine va_iald hx hb hK hP 3 2 rfl rfl h34 dX9_part_34 ?_
        refine lv_goto (tgt := 53) hx hb dX9_part_35 (by decide) ?_
        obtain rfl := si1 hM
        exact hret _ _ _ _ _ dX9_part_53 rfl rfl hP hD hS
    · have hM := g_pos c12 hM
      refine lv_aload_n hx hb dX9_part_15 rfl (lv_at hl 0 rfl) ?_
      refine va_get (D := D) (ci := 9) (v := .ref h0_rates) (C := RX9) (T := TX9) (N := 38) hx hb hts iX9 hown hK hP 0 rfl rfl 4 (by decide) k17 (fun _ h9 => h9) rfl dX9_part_16 ?_
      refine lv_iload_n hx hb dX9_part_19 rfl (lv_at hl 1 rfl) ?_
      obtain ⟨h20, hM⟩ := gi_some hM
      refine va_iald hx hb hK hP 2 2 rfl rfl h20 dX9_part_20 ?_
      refine lv_goto (tgt := 53) hx hb dX9_part_21 (by decide) ?_
      obtain rfl := si1 hM
      exact hret _ _ _ _ _ dX9_part_53 rfl rfl hP hD hS
  · have hM := g_pos c5 hM
    refine lv_ldc (v := -1000000001) hx hb hown k180 dX9_part_8 ?_
    obtain rfl := si1 hM
    exact hret _ _ _ _ _ dX9_part_10 rfl rfl hP hD hS

-- ===== X9_person person (II)I =====
abbrev r9_person : Room := { frames := 2, cells := 0, slots := 0, locals := 43 }
def f9_person (N : Nat) (p1 : Int32) (p2 : Int32) (v_persons : Nat → Int32) (v_now : Nat → Int32) : Option Int32 :=
  ob1 (f9_isPerson N p1 v_persons) fun r2 => if r2 = (0 : Int32) then (some (-1000000001 : Int32)) else (if p2 = (0 : Int32) then (gi ((1 : Int32) + p1) 60 (some (v_now ((1 : Int32) + p1).toNatClampNeg))) else (if p2 = (1 : Int32) then (gi ((7 : Int32) + p1) 60 (some (v_now ((7 : Int32) + p1).toNatClampNeg))) else (if p2 = (2 : Int32) then (ob1 (f9_isDown N p1 v_now) fun r50 => if r50 = (0 : Int32) then (some (-1 : Int32)) else (gi ((13 : Int32) + p1) 60 (some (v_now ((13 : Int32) + p1).toNatClampNeg)))) else (some (-1000000002 : Int32)))))
set_option maxHeartbeats 4000000 in
set_option maxRecDepth 100000 in
theorem c9_person (l : Launch) (D : va_G) (cy : Nat → ClassId) (N : Nat) (h0 h0_persons h0_now : Nat) (oh0_0 oh0_1 oh0_2 oh0_3 oh0_4 oh0_5 oh0_6 oh0_7 oh0_9 oh0_10 oh0_11 oh0_12 oh0_13 oh0_14 oh0_15 oh0_16 oh0_17 oh0_18 oh0_19 oh0_20 oh0_21 oh0_23 oh0_24 oh0_25 oh0_26 oh0_27 oh0_28 oh0_29 oh0_30 oh0_31 oh0_32 oh0_33 oh0_34 oh0_35 oh0_36 oh0_37 : Value) (p1 : Int32) (p2 : Int32) (v_persons : Nat → Int32) (v_now : Nat → Int32) (r : Int32) (hM : f9_person N p1 p2 v_persons v_now = some r) (sz : Nat) : CTi l yX9_person wsX9_person r9_person [.ref h0, .int p1, .int p2] D cy sz [(h0, .inr (9, [oh0_0, oh0_1, oh0_2, oh0_3, oh0_4, oh0_5, oh0_6, oh0_7, .ref h0_persons, oh0_9, oh0_10, oh0_11, oh0_12, oh0_13, oh0_14, oh0_15, oh0_16, oh0_17, oh0_18, oh0_19, oh0_20, oh0_21, .ref h0_now, oh0_23, oh0_24, oh0_25, oh0_26, oh0_27, oh0_28, oh0_29, oh0_30, oh0_31, oh0_32, oh0_33, oh0_34, oh0_35, oh0_36, oh0_37])), (h0_persons, .inl (cy 2, 2, .inl v_persons)), (h0_now, .inl (cy 2, 60, .inl v_now))] [(h0, .inr (9, [oh0_0, oh0_1, oh0_2, oh0_3, oh0_4, oh0_5, oh0_6, oh0_7, .ref h0_persons, oh0_9, oh0_10, oh0_11, oh0_12, oh0_13, oh0_14, oh0_15, oh0_16, oh0_17, oh0_18, oh0_19, oh0_20, oh0_21, .ref h0_now, oh0_23, oh0_24, oh0_25, oh0_26, oh0_27, oh0_28, oh0_29, oh0_30, oh0_31, oh0_32, oh0_33, oh0_34, oh0_35, oh0_36, oh0_37])), (h0_persons, .inl (cy 2, 2, .inl v_persons)), (h0_now, .inl (cy 2, 60, .inl v_now))] r := by
  unfold f9_person at hM
  refine ct_oi (cc := cX9_person) (maxL := 3) (ty := .int) (by decide +kernel) rfl (Nat.le_of_ble_eq_true rfl) (lv0 := [(0, .ref h0), (1, .int p1), (2, .int p2)]) rfl ?_
  intro p e s m args below meth c A Q ls hx hb hts hown hml hK hP hD hS hA hret hl
  have hown : s.vm.findClass RX9 = some m.cls := hown
  have k99 := hts (.constant RX9 99 (-1000000002)) (List.mem_of_getElem? (i := 3) (by decide +kernel))
  have k50 := hts (.fieldLink RX9 50 "CaveYearsModel" "now" "[I") (List.mem_of_getElem? (i := 2) (by decide +kernel))
  have iX9 := (fun w h => (List.mem_cons_of_mem _ (List.mem_append_right _ h)) : ∀ w ∈ wsX90, w ∈ wsX9_person)
  have k180 := hts (.constant RX9 180 (-1000000001)) (List.mem_of_getElem? (i := 1) (by decide +kernel))
  refine lv_aload_n hx hb dX9_person_0 rfl (lv_at hl 0 rfl) ?_
  refine lv_iload_n hx hb dX9_person_1 rfl (lv_at hl 1 rfl) ?_
  obtain ⟨r2, hc2, hM⟩ := ob1_some hM
  refine cl_vi (As := [.int p1]) (rest := []) (ci := 9) (q0 := 0) (wr := [(h0_now, .inl (cy 2, 60, .inl v_now))]) (ws2 := [(h0, .inr (9, [oh0_0, oh0_1, oh0_2, oh0_3, oh0_4, oh0_5, oh0_6, oh0_7, .ref h0_persons, oh0_9, oh0_10, oh0_11, oh0_12, oh0_13, oh0_14, oh0_15, oh0_16, oh0_17, oh0_18, oh0_19, oh0_20, oh0_21, .ref h0_now, oh0_23, oh0_24, oh0_25, oh0_26, oh0_27, oh0_28, oh0_29, oh0_30, oh0_31, oh0_32, oh0_33, oh0_34, oh0_35, oh0_36, oh0_37])), (h0_persons, .inl (cy 2, 2, .inl v_persons)), (h0_now, .inl (cy 2, 60, .inl v_now))]) (isC := [0, 1]) (isR := [2]) (pm := [1, 2, 0]) hx hb hml hown hts (c9_isPerson l D cy N h0 h0_persons oh0_0 oh0_1 oh0_2 oh0_3 oh0_4 oh0_5 oh0_6 oh0_7 oh0_9 oh0_10 oh0_11 oh0_12 oh0_13 oh0_14 oh0_15 oh0_16 oh0_17 oh0_18 oh0_19 oh0_20 oh0_21 (.ref h0_now) oh0_23 oh0_24 oh0_25 oh0_26 oh0_27 oh0_28 oh0_29 oh0_30 oh0_31 oh0_32 oh0_33 oh0_34 oh0_35 oh0_36 oh0_37 p1 v_persons r2 hc2) (cwV 1 hts gX9_person_X9_isPerson rfl rfl rfl (by decide +kernel) ⟨Nat.le_of_ble_eq_true rfl, Nat.le_of_ble_eq_true rfl⟩) hK hP hD hS hA rfl rfl rfl rfl rfl (by decide) rfl rfl rfl hl.1 (Nat.le_of_ble_eq_true rfl) dX9_person_2 ⟨Nat.zero_le _, Nat.zero_le _⟩ rfl rfl (fun H locs hP hD hS => ?_)
  refine lv_if_ne (tgt := 11) hx hb dX9_person_5 (by decide) (fun c5 => ?_) (fun c5 => ?_)
  · have hM := g_neg c5 hM
    refine lv_iload_n hx hb dX9_person_11 rfl (lv_at hl 2 rfl) ?_
    refine lv_if_ne (tgt := 26) hx hb dX9_person_12 (by decide) (fun c12 => ?_) (fun c12 => ?_)
    · have hM := g_neg c12 hM
      refine lv_iload_n hx hb dX9_person_26 rfl (lv_at hl 2 rfl) ?_
      refine lv_iconst (v := 1) hx hb dX9_person_27 (by decide) ?_
      refine lv_icmp_ne (tgt := 43) hx hb dX9_person_28 (by decide) (fun c28 => ?_) (fun c28 => ?_)
      · have hM := g_neg c28 hM
        refine lv_iload_n hx hb dX9_person_43 rfl (lv_at hl 2 rfl) ?_
        refine lv_iconst (v := 2) hx hb dX9_person_44 (by decide) ?_
        refine lv_icmp_ne (tgt := 72) hx hb dX9_person_45 (by decide) (fun c45 => ?_) (fun c45 => ?_)
        · have hM := g_neg c45 hM
          refine lv_ldc (v := -1000000002) hx hb hown k99 dX9_person_72 ?_
          obtain rfl := si1 hM
          exact hret _ _ _ _ _ dX9_person_74 rfl rfl hP hD hS
        · have hM := g_pos c45 hM
          refine lv_aload_n hx hb dX9_person_48 rfl (lv_at hl 0 rfl) ?_
          refine lv_iload_n hx hb dX9_person_49 rfl (lv_at hl 1 rfl) ?_
          obtain ⟨r50, hc50, hM⟩ := ob1_some hM
          refine cl_vi (As := [.int p1]) (rest := []) (ci := 9) (q0 := 0) (wr := [(h0_persons, .inl (cy 2, 2, .inl v_persons))]) (ws2 := [(h0, .inr (9, [oh0_0, oh0_1, oh0_2, oh0_3, oh0_4, oh0_5, oh0_6, oh0_7, .ref h0_persons, oh0_9, oh0_10, oh0_11, oh0_12, oh0_13, oh0_14, oh0_15, oh0_16, oh0_17, oh0_18, oh0_19, oh0_20, oh0_21, .ref h0_now, oh0_23, oh0_24, oh0_25, oh0_26, oh0_27, oh0_28, oh0_29, oh0_30, oh0_31, oh0_32, oh0_33, oh0_34, oh0_35, oh0_36, oh0_37])), (h0_persons, .inl (cy 2, 2, .inl v_persons)), (h0_now, .inl (cy 2, 60, .inl v_now))]) (isC := [0, 2]) (isR := [1]) (pm := [1, 0, 2]) hx hb hml hown hts (c9_isDown l D cy N h0 h0_now oh0_0 oh0_1 oh0_2 oh0_3 oh0_4 oh0_5 oh0_6 oh0_7 (.ref h0_persons) oh0_9 oh0_10 oh0_11 oh0_12 oh0_13 oh0_14 oh0_15 oh0_16 oh0_17 oh0_18 oh0_19 oh0_20 oh0_21 oh0_23 oh0_24 oh0_25 oh0_26 oh0_27 oh0_28 oh0_29 oh0_30 oh0_31 oh0_32 oh0_33 oh0_34 oh0_35 oh0_36 oh0_37 p1 v_now r50 hc50) (cwV 1 hts gX9_person_X9_isDown rfl rfl rfl (by decide +kernel) ⟨Nat.le_of_ble_eq_true rfl, Nat.le_of_ble_eq_true rfl⟩) hK hP hD hS hA rfl rfl rfl rfl rfl (by decide) rfl rfl rfl hl.1 (Nat.le_of_ble_eq_true rfl) dX9_person_50 ⟨Nat.zero_le _, Nat.zero_le _⟩ rfl rfl (fun H locs hP hD hS => ?_)
          refine lv_if_eq (tgt := 68) hx hb dX9_person_53 (by decide) (fun c53 => ?_) (fun c53 => ?_)
          · have hM := g_pos c53 hM
            refine lv_iconst (v := -1) hx hb dX9_person_68 (by decide) ?_
            refine lv_goto (tgt := 74) hx hb dX9_person_69 (by decide) ?_
            obtain rfl := si1 hM
            exact hret _ _ _ _ _ dX9_person_74 rfl rfl hP hD hS
          · have hM := g_neg c53 hM
            refine lv_aload_n hx hb dX9_person_56 rfl (lv_at hl 0 rfl) ?_
            refine va_get (D := D) (ci := 9) (v := .ref h0_now) (C := RX9) (T := TX9) (N := 38) hx hb hts iX9 hown hK hP 0 rfl rfl 22 (by decide) k50 (fun _ h9 => h9) rfl dX9_person_57 ?_
            refine lv_bipush (v := 13) hx hb dX9_person_60 (by decide) ?_
            refine lv_iload_n hx hb dX9_person_62 rfl (lv_at hl 1 rfl) ?_
            refine lv_iadd hx hb dX9_person_63 ?_
            obtain ⟨h64, hM⟩ := gi_some hM
            refine va_iald hx hb hK hP 2 2 rfl rfl h64 dX9_person_64 ?_
            refine lv_goto (tgt := 74) hx hb dX9_person_65 (by decide) ?_
            obtain rfl := si1 hM
            exact hret _ _ _ _ _ dX9_person_74 rfl rfl hP hD hS
      · have hM := g_pos c28 hM
        refine lv_aload_n hx hb dX9_person_31 rfl (lv_at hl 0 rfl) ?_
        refine va_get (D := D) (ci := 9) (v := .ref h0_now) (C := RX9) (T := TX9) (N := 38) hx hb hts iX9 hown hK hP 0 rfl rfl 22 (by decide) k50 (fun _ h9 => h9) rfl dX9_person_32 ?_
        refine lv_bipush (v := 7) hx hb dX9_person_35 (by decide) ?_
        refine lv_iload_n hx hb dX9_person_37 rfl (lv_at hl 1 rfl) ?_
        refine lv_iadd hx hb dX9_person_38 ?_
        obtain ⟨h39, hM⟩ := gi_some hM
        refine va_iald hx hb hK hP 2 2 rfl rfl h39 dX9_person_39 ?_
        refine lv_goto (tgt := 74) hx hb dX9_person_40 (by decide) ?_
        obtain rfl := si1 hM
        exact hret _ _ _ _ _ dX9_person_74 rfl rfl hP hD hS
    · have hM := g_pos c12 hM
      refine lv_aload_n hx hb dX9_person_15 rfl (lv_at hl 0 rfl) ?_
      refine va_get (D := D) (ci := 9) (v := .ref h0_now) (C := RX9) (T := TX9) (N := 38) hx hb hts iX9 hown hK hP 0 rfl rfl 22 (by decide) k50 (fun _ h9 => h9) rfl dX9_person_16 ?_
      refine lv_iconst (v := 1) hx hb dX9_person_19 (by decide) ?_
      refine lv_iload_n hx hb dX9_person_20 rfl (lv_at hl 1 rfl) ?_
      refine lv_iadd hx hb dX9_person_21 ?_
      obtain ⟨h22, hM⟩ := gi_some hM
      refine va_iald hx hb hK hP 2 2 rfl rfl h22 dX9_person_22 ?_
      refine lv_goto (tgt := 74) hx hb dX9_person_23 (by decide) ?_
      obtain rfl := si1 hM
      exact hret _ _ _ _ _ dX9_person_74 rfl rfl hP hD hS
  · have hM := g_pos c5 hM
    refine lv_ldc (v := -1000000001) hx hb hown k180 dX9_person_8 ?_
    obtain rfl := si1 hM
    exact hret _ _ _ _ _ dX9_person_10 rfl rfl hP hD hS

-- ===== X9_spend spend (I)I =====
abbrev r9_spend : Room := { frames := 2, cells := 0, slots := 0, locals := 43 }
def f9_spend (N : Nat) (p1 : Int32) (v_stayMany : Int32) (v_parts : Nat → Int32) (v_stay : Nat → Int32) : Option (Int32 × Int32 × (Nat → Int32)) :=
  ob1 (f9_isPart N p1 v_parts) fun r2 => if r2 = (0 : Int32) then (some ((-1000000001 : Int32), v_stayMany, v_stay)) else (if v_stayMany = (40 : Int32) then (some ((-1000000004 : Int32), v_stayMany, v_stay)) else (gi v_stayMany 40 (some ((v_stayMany + (1 : Int32)), (v_stayMany + (1 : Int32)), (upd v_stay v_stayMany.toNatClampNeg p1)))))
set_option maxHeartbeats 4000000 in
set_option maxRecDepth 100000 in
theorem c9_spend (l : Launch) (D : va_G) (cy : Nat → ClassId) (N : Nat) (h0 h0_parts h0_stay : Nat) (oh0_0 oh0_1 oh0_2 oh0_4 oh0_5 oh0_6 oh0_7 oh0_8 oh0_9 oh0_10 oh0_11 oh0_12 oh0_13 oh0_14 oh0_15 oh0_16 oh0_17 oh0_18 oh0_19 oh0_20 oh0_21 oh0_22 oh0_23 oh0_26 oh0_27 oh0_28 oh0_29 oh0_30 oh0_31 oh0_32 oh0_33 oh0_34 oh0_35 oh0_36 oh0_37 : Value) (p1 : Int32) (v_stayMany : Int32) (v_parts : Nat → Int32) (v_stay : Nat → Int32) (r : Int32) (nv_stayMany : Int32) (nv_stay : Nat → Int32) (hM : f9_spend N p1 v_stayMany v_parts v_stay = some (r, nv_stayMany, nv_stay)) (sz : Nat) : CTi l yX9_spend wsX9_spend r9_spend [.ref h0, .int p1] D cy sz [(h0, .inr (9, [oh0_0, oh0_1, oh0_2, .ref h0_parts, oh0_4, oh0_5, oh0_6, oh0_7, oh0_8, oh0_9, oh0_10, oh0_11, oh0_12, oh0_13, oh0_14, oh0_15, oh0_16, oh0_17, oh0_18, oh0_19, oh0_20, oh0_21, oh0_22, oh0_23, .ref h0_stay, .int v_stayMany, oh0_26, oh0_27, oh0_28, oh0_29, oh0_30, oh0_31, oh0_32, oh0_33, oh0_34, oh0_35, oh0_36, oh0_37])), (h0_parts, .inl (cy 2, 2, .inl v_parts)), (h0_stay, .inl (cy 2, 40, .inl v_stay))] [(h0, .inr (9, [oh0_0, oh0_1, oh0_2, .ref h0_parts, oh0_4, oh0_5, oh0_6, oh0_7, oh0_8, oh0_9, oh0_10, oh0_11, oh0_12, oh0_13, oh0_14, oh0_15, oh0_16, oh0_17, oh0_18, oh0_19, oh0_20, oh0_21, oh0_22, oh0_23, .ref h0_stay, .int nv_stayMany, oh0_26, oh0_27, oh0_28, oh0_29, oh0_30, oh0_31, oh0_32, oh0_33, oh0_34, oh0_35, oh0_36, oh0_37])), (h0_parts, .inl (cy 2, 2, .inl v_parts)), (h0_stay, .inl (cy 2, 40, .inl nv_stay))] r := by
  unfold f9_spend at hM
  refine ct_oi (cc := cX9_spend) (maxL := 2) (ty := .int) (by decide +kernel) rfl (Nat.le_of_ble_eq_true rfl) (lv0 := [(0, .ref h0), (1, .int p1)]) rfl ?_
  intro p e s m args below meth c A Q ls hx hb hts hown hml hK hP hD hS hA hret hl
  have hown : s.vm.findClass RX9 = some m.cls := hown
  have k159 := hts (.fieldLink RX9 159 "CaveYearsModel" "stayMany" "I") (List.mem_of_getElem? (i := 2) (by decide +kernel))
  have iX9 := (fun w h => (List.mem_cons_of_mem _ (List.mem_append_right _ h)) : ∀ w ∈ wsX90, w ∈ wsX9_spend)
  have k57 := hts (.fieldLink RX9 57 "CaveYearsModel" "stay" "[I") (List.mem_of_getElem? (i := 4) (by decide +kernel))
  have k103 := hts (.constant RX9 103 (-1000000004)) (List.mem_of_getElem? (i := 3) (by decide +kernel))
  have k180 := hts (.constant RX9 180 (-1000000001)) (List.mem_of_getElem? (i := 1) (by decide +kernel))
  refine lv_aload_n hx hb dX9_spend_0 rfl (lv_at hl 0 rfl) ?_
  refine lv_iload_n hx hb dX9_spend_1 rfl (lv_at hl 1 rfl) ?_
  obtain ⟨r2, hc2, hM⟩ := ob1_some hM
  refine cl_vi (As := [.int p1]) (rest := []) (ci := 9) (q0 := 0) (wr := [(h0_stay, .inl (cy 2, 40, .inl v_stay))]) (ws2 := [(h0, .inr (9, [oh0_0, oh0_1, oh0_2, .ref h0_parts, oh0_4, oh0_5, oh0_6, oh0_7, oh0_8, oh0_9, oh0_10, oh0_11, oh0_12, oh0_13, oh0_14, oh0_15, oh0_16, oh0_17, oh0_18, oh0_19, oh0_20, oh0_21, oh0_22, oh0_23, .ref h0_stay, .int v_stayMany, oh0_26, oh0_27, oh0_28, oh0_29, oh0_30, oh0_31, oh0_32, oh0_33, oh0_34, oh0_35, oh0_36, oh0_37])), (h0_parts, .inl (cy 2, 2, .inl v_parts)), (h0_stay, .inl (cy 2, 40, .inl v_stay))]) (isC := [0, 1]) (isR := [2]) (pm := [1, 2, 0]) hx hb hml hown hts (c9_isPart l D cy N h0 h0_parts oh0_0 oh0_1 oh0_2 oh0_4 oh0_5 oh0_6 oh0_7 oh0_8 oh0_9 oh0_10 oh0_11 oh0_12 oh0_13 oh0_14 oh0_15 oh0_16 oh0_17 oh0_18 oh0_19 oh0_20 oh0_21 oh0_22 oh0_23 (.ref h0_stay) (.int v_stayMany) oh0_26 oh0_27 oh0_28 oh0_29 oh0_30 oh0_31 oh0_32 oh0_33 oh0_34 oh0_35 oh0_36 oh0_37 p1 v_parts r2 hc2) (cwV 1 hts gX9_spend_X9_isPart rfl rfl rfl (by decide +kernel) ⟨Nat.le_of_ble_eq_true rfl, Nat.le_of_ble_eq_true rfl⟩) hK hP hD hS hA rfl rfl rfl rfl rfl (by decide) rfl rfl rfl hl.1 (Nat.le_of_ble_eq_true rfl) dX9_spend_2 ⟨Nat.zero_le _, Nat.zero_le _⟩ rfl rfl (fun H locs hP hD hS => ?_)
  refine lv_if_ne (tgt := 11) hx hb dX9_spend_5 (by decide) (fun c5 => ?_) (fun c5 => ?_)
  · have hM := g_neg c5 hM
    refine lv_aload_n hx hb dX9_spend_11 rfl (lv_at hl 0 rfl) ?_
    refine va_get (D := D) (ci := 9) (v := .int v_stayMany) (C := RX9) (T := TX9) (N := 38) hx hb hts iX9 hown hK hP 0 rfl rfl 25 (by decide) k159 (fun _ h9 => h9) rfl dX9_spend_12 ?_
    refine lv_bipush (v := 40) hx hb dX9_spend_15 (by decide) ?_
    refine lv_icmp_ne (tgt := 23) hx hb dX9_spend_17 (by decide) (fun c17 => ?_) (fun c17 => ?_)
    · have hM := g_neg c17 hM
      refine lv_aload_n hx hb dX9_spend_23 rfl (lv_at hl 0 rfl) ?_
      refine va_get (D := D) (ci := 9) (v := .ref h0_stay) (C := RX9) (T := TX9) (N := 38) hx hb hts iX9 hown hK hP 0 rfl rfl 24 (by decide) k57 (fun _ h9 => h9) rfl dX9_spend_24 ?_
      refine lv_aload_n hx hb dX9_spend_27 rfl (lv_at hl 0 rfl) ?_
      refine va_get (D := D) (ci := 9) (v := .int v_stayMany) (C := RX9) (T := TX9) (N := 38) hx hb hts iX9 hown hK hP 0 rfl rfl 25 (by decide) k159 (fun _ h9 => h9) rfl dX9_spend_28 ?_
      refine lv_iload_n hx hb dX9_spend_31 rfl (lv_at hl 1 rfl) ?_
      obtain ⟨h32, hM⟩ := gi_some hM
      refine va_iast hx hb hK hP hD hS 2 2 rfl rfl h32 dX9_spend_32 (fun H locs hP hD hS => ?_)
      have hP : va_P D vwCl [(h0, .inr (9, [oh0_0, oh0_1, oh0_2, .ref h0_parts, oh0_4, oh0_5, oh0_6, oh0_7, oh0_8, oh0_9, oh0_10, oh0_11, oh0_12, oh0_13, oh0_14, oh0_15, oh0_16, oh0_17, oh0_18, oh0_19, oh0_20, oh0_21, oh0_22, oh0_23, .ref h0_stay, .int v_stayMany, oh0_26, oh0_27, oh0_28, oh0_29, oh0_30, oh0_31, oh0_32, oh0_33, oh0_34, oh0_35, oh0_36, oh0_37])), (h0_parts, .inl (cy 2, 2, .inl v_parts)), (h0_stay, .inl (cy 2, 40, .inl (upd v_stay v_stayMany.toNatClampNeg p1)))] H := hP
      have hD : va_D A [(h0, .inr (9, [oh0_0, oh0_1, oh0_2, .ref h0_parts, oh0_4, oh0_5, oh0_6, oh0_7, oh0_8, oh0_9, oh0_10, oh0_11, oh0_12, oh0_13, oh0_14, oh0_15, oh0_16, oh0_17, oh0_18, oh0_19, oh0_20, oh0_21, oh0_22, oh0_23, .ref h0_stay, .int v_stayMany, oh0_26, oh0_27, oh0_28, oh0_29, oh0_30, oh0_31, oh0_32, oh0_33, oh0_34, oh0_35, oh0_36, oh0_37])), (h0_parts, .inl (cy 2, 2, .inl v_parts)), (h0_stay, .inl (cy 2, 40, .inl (upd v_stay v_stayMany.toNatClampNeg p1)))] := hD
      refine lv_aload_n hx hb dX9_spend_33 rfl (lv_at hl 0 rfl) ?_
      refine lv_dup hx hb dX9_spend_34 rfl ?_
      refine va_get (D := D) (ci := 9) (v := .int v_stayMany) (C := RX9) (T := TX9) (N := 38) hx hb hts iX9 hown hK hP 0 rfl rfl 25 (by decide) k159 (fun _ h9 => h9) rfl dX9_spend_35 ?_
      refine lv_iconst (v := 1) hx hb dX9_spend_38 (by decide) ?_
      refine lv_iadd hx hb dX9_spend_39 ?_
      refine va_put (D := D) (ci := 9) (v := .int (v_stayMany + (1 : Int32))) (ty := .int) (C := RX9) (T := TX9) (N := 38) hx hb hts iX9 tyX9 tyX9_ok nmX9 hown hK hP hD hS 0 rfl rfl 25 (by decide) k159 (fun _ h9 => h9) rfl (by decide +kernel) rfl rfl (Nat.le_of_ble_eq_true rfl) dX9_spend_40 (fun H locs hP hD hS => ?_)
      have hP : va_P D vwCl [(h0, .inr (9, [oh0_0, oh0_1, oh0_2, .ref h0_parts, oh0_4, oh0_5, oh0_6, oh0_7, oh0_8, oh0_9, oh0_10, oh0_11, oh0_12, oh0_13, oh0_14, oh0_15, oh0_16, oh0_17, oh0_18, oh0_19, oh0_20, oh0_21, oh0_22, oh0_23, .ref h0_stay, .int (v_stayMany + (1 : Int32)), oh0_26, oh0_27, oh0_28, oh0_29, oh0_30, oh0_31, oh0_32, oh0_33, oh0_34, oh0_35, oh0_36, oh0_37])), (h0_parts, .inl (cy 2, 2, .inl v_parts)), (h0_stay, .inl (cy 2, 40, .inl (upd v_stay v_stayMany.toNatClampNeg p1)))] H := hP
      have hD : va_D A [(h0, .inr (9, [oh0_0, oh0_1, oh0_2, .ref h0_parts, oh0_4, oh0_5, oh0_6, oh0_7, oh0_8, oh0_9, oh0_10, oh0_11, oh0_12, oh0_13, oh0_14, oh0_15, oh0_16, oh0_17, oh0_18, oh0_19, oh0_20, oh0_21, oh0_22, oh0_23, .ref h0_stay, .int (v_stayMany + (1 : Int32)), oh0_26, oh0_27, oh0_28, oh0_29, oh0_30, oh0_31, oh0_32, oh0_33, oh0_34, oh0_35, oh0_36, oh0_37])), (h0_parts, .inl (cy 2, 2, .inl v_parts)), (h0_stay, .inl (cy 2, 40, .inl (upd v_stay v_stayMany.toNatClampNeg p1)))] := hD
      refine lv_aload_n hx hb dX9_spend_43 rfl (lv_at hl 0 rfl) ?_
      refine va_get (D := D) (ci := 9) (v := .int (v_stayMany + (1 : Int32))) (C := RX9) (T := TX9) (N := 38) hx hb hts iX9 hown hK hP 0 rfl rfl 25 (by decide) k159 (fun _ h9 => h9) rfl dX9_spend_44 ?_
      obtain ⟨rfl, rfl, rfl⟩ := si3 hM
      exact hret _ _ _ _ _ dX9_spend_47 rfl rfl hP hD hS
    · have hM := g_pos c17 hM
      refine lv_ldc (v := -1000000004) hx hb hown k103 dX9_spend_20 ?_
      obtain ⟨rfl, rfl, rfl⟩ := si3 hM
      exact hret _ _ _ _ _ dX9_spend_22 rfl rfl hP hD hS
  · have hM := g_pos c5 hM
    refine lv_ldc (v := -1000000001) hx hb hown k180 dX9_spend_8 ?_
    obtain ⟨rfl, rfl, rfl⟩ := si3 hM
    exact hret _ _ _ _ _ dX9_spend_10 rfl rfl hP hD hS

-- ===== X9_forget forget ()I =====
abbrev r9_forget : Room := { frames := 0, cells := 0, slots := 0, locals := 0 }
def f9_forget (N : Nat) (v_stayMany : Int32) : Option (Int32 × Int32) :=
  some (v_stayMany, (0 : Int32))
set_option maxHeartbeats 4000000 in
set_option maxRecDepth 100000 in
theorem c9_forget (l : Launch) (D : va_G) (cy : Nat → ClassId) (N : Nat) (h0 : Nat) (oh0_0 oh0_1 oh0_2 oh0_3 oh0_4 oh0_5 oh0_6 oh0_7 oh0_8 oh0_9 oh0_10 oh0_11 oh0_12 oh0_13 oh0_14 oh0_15 oh0_16 oh0_17 oh0_18 oh0_19 oh0_20 oh0_21 oh0_22 oh0_23 oh0_24 oh0_26 oh0_27 oh0_28 oh0_29 oh0_30 oh0_31 oh0_32 oh0_33 oh0_34 oh0_35 oh0_36 oh0_37 : Value) (v_stayMany : Int32) (r : Int32) (nv_stayMany : Int32) (hM : f9_forget N v_stayMany = some (r, nv_stayMany)) (sz : Nat) : CTi l yX9_forget wsX9_forget r9_forget [.ref h0] D cy sz [(h0, .inr (9, [oh0_0, oh0_1, oh0_2, oh0_3, oh0_4, oh0_5, oh0_6, oh0_7, oh0_8, oh0_9, oh0_10, oh0_11, oh0_12, oh0_13, oh0_14, oh0_15, oh0_16, oh0_17, oh0_18, oh0_19, oh0_20, oh0_21, oh0_22, oh0_23, oh0_24, .int v_stayMany, oh0_26, oh0_27, oh0_28, oh0_29, oh0_30, oh0_31, oh0_32, oh0_33, oh0_34, oh0_35, oh0_36, oh0_37]))] [(h0, .inr (9, [oh0_0, oh0_1, oh0_2, oh0_3, oh0_4, oh0_5, oh0_6, oh0_7, oh0_8, oh0_9, oh0_10, oh0_11, oh0_12, oh0_13, oh0_14, oh0_15, oh0_16, oh0_17, oh0_18, oh0_19, oh0_20, oh0_21, oh0_22, oh0_23, oh0_24, .int nv_stayMany, oh0_26, oh0_27, oh0_28, oh0_29, oh0_30, oh0_31, oh0_32, oh0_33, oh0_34, oh0_35, oh0_36, oh0_37]))] r := by
  unfold f9_forget at hM
  refine ct_oi (cc := cX9_forget) (maxL := 2) (ty := .int) (by decide +kernel) rfl (Nat.le_of_ble_eq_true rfl) (lv0 := [(0, .ref h0)]) rfl ?_
  intro p e s m args below meth c A Q ls hx hb hts hown hml hK hP hD hS hA hret hl
  have hown : s.vm.findClass RX9 = some m.cls := hown
  have k159 := hts (.fieldLink RX9 159 "CaveYearsModel" "stayMany" "I") (List.mem_of_getElem? (i := 1) (by decide +kernel))
  have iX9 := (fun w h => (List.mem_cons_of_mem _ (List.mem_append_right _ h)) : ∀ w ∈ wsX90, w ∈ wsX9_forget)
  refine lv_aload_n hx hb dX9_forget_0 rfl (lv_at hl 0 rfl) ?_
  refine va_get (D := D) (ci := 9) (v := .int v_stayMany) (C := RX9) (T := TX9) (N := 38) hx hb hts iX9 hown hK hP 0 rfl rfl 25 (by decide) k159 (fun _ h9 => h9) rfl dX9_forget_1 ?_
  refine lv_istore_n (lv' := [(1, .int v_stayMany), (0, .ref h0)]) hx hb dX9_forget_4 rfl hl (by decide) rfl (fun ls hl => ?_)
  refine lv_aload_n hx hb dX9_forget_5 rfl (lv_at hl 1 rfl) ?_
  refine lv_iconst (v := 0) hx hb dX9_forget_6 (by decide) ?_
  refine va_put (D := D) (ci := 9) (v := .int (0 : Int32)) (ty := .int) (C := RX9) (T := TX9) (N := 38) hx hb hts iX9 tyX9 tyX9_ok nmX9 hown hK hP hD hS 0 rfl rfl 25 (by decide) k159 (fun _ h9 => h9) rfl (by decide +kernel) rfl rfl (Nat.le_of_ble_eq_true rfl) dX9_forget_7 (fun H locs hP hD hS => ?_)
  have hP : va_P D vwCl [(h0, .inr (9, [oh0_0, oh0_1, oh0_2, oh0_3, oh0_4, oh0_5, oh0_6, oh0_7, oh0_8, oh0_9, oh0_10, oh0_11, oh0_12, oh0_13, oh0_14, oh0_15, oh0_16, oh0_17, oh0_18, oh0_19, oh0_20, oh0_21, oh0_22, oh0_23, oh0_24, .int (0 : Int32), oh0_26, oh0_27, oh0_28, oh0_29, oh0_30, oh0_31, oh0_32, oh0_33, oh0_34, oh0_35, oh0_36, oh0_37]))] H := hP
  have hD : va_D A [(h0, .inr (9, [oh0_0, oh0_1, oh0_2, oh0_3, oh0_4, oh0_5, oh0_6, oh0_7, oh0_8, oh0_9, oh0_10, oh0_11, oh0_12, oh0_13, oh0_14, oh0_15, oh0_16, oh0_17, oh0_18, oh0_19, oh0_20, oh0_21, oh0_22, oh0_23, oh0_24, .int (0 : Int32), oh0_26, oh0_27, oh0_28, oh0_29, oh0_30, oh0_31, oh0_32, oh0_33, oh0_34, oh0_35, oh0_36, oh0_37]))] := hD
  refine lv_iload_n hx hb dX9_forget_10 rfl (lv_at hl 0 rfl) ?_
  obtain ⟨rfl, rfl⟩ := si2 hM
  exact hret _ _ _ _ _ dX9_forget_11 rfl rfl hP hD hS

-- ===== X9_isStep isStep (II)Z =====
abbrev r9_isStep : Room := { frames := 0, cells := 0, slots := 0, locals := 0 }
def f9_isStep (N : Nat) (p1 : Int32) (p2 : Int32) (v_ways : Nat → Int32) : Option Int32 :=
  if p1 = p2 then (some (1 : Int32)) else (gi p1 14 (if (((v_ways p1.toNatClampNeg) >>> (p2 &&& 31)) &&& (1 : Int32)) = (1 : Int32) then (some (1 : Int32)) else (some (0 : Int32))))
set_option maxHeartbeats 4000000 in
set_option maxRecDepth 100000 in
theorem c9_isStep (l : Launch) (D : va_G) (cy : Nat → ClassId) (N : Nat) (h0 h0_ways : Nat) (oh0_0 oh0_1 oh0_2 oh0_3 oh0_4 oh0_6 oh0_7 oh0_8 oh0_9 oh0_10 oh0_11 oh0_12 oh0_13 oh0_14 oh0_15 oh0_16 oh0_17 oh0_18 oh0_19 oh0_20 oh0_21 oh0_22 oh0_23 oh0_24 oh0_25 oh0_26 oh0_27 oh0_28 oh0_29 oh0_30 oh0_31 oh0_32 oh0_33 oh0_34 oh0_35 oh0_36 oh0_37 : Value) (p1 : Int32) (p2 : Int32) (v_ways : Nat → Int32) (r : Int32) (hM : f9_isStep N p1 p2 v_ways = some r) (sz : Nat) : CTi l yX9_isStep wsX9_isStep r9_isStep [.ref h0, .int p1, .int p2] D cy sz [(h0, .inr (9, [oh0_0, oh0_1, oh0_2, oh0_3, oh0_4, .ref h0_ways, oh0_6, oh0_7, oh0_8, oh0_9, oh0_10, oh0_11, oh0_12, oh0_13, oh0_14, oh0_15, oh0_16, oh0_17, oh0_18, oh0_19, oh0_20, oh0_21, oh0_22, oh0_23, oh0_24, oh0_25, oh0_26, oh0_27, oh0_28, oh0_29, oh0_30, oh0_31, oh0_32, oh0_33, oh0_34, oh0_35, oh0_36, oh0_37])), (h0_ways, .inl (cy 2, 14, .inl v_ways))] [(h0, .inr (9, [oh0_0, oh0_1, oh0_2, oh0_3, oh0_4, .ref h0_ways, oh0_6, oh0_7, oh0_8, oh0_9, oh0_10, oh0_11, oh0_12, oh0_13, oh0_14, oh0_15, oh0_16, oh0_17, oh0_18, oh0_19, oh0_20, oh0_21, oh0_22, oh0_23, oh0_24, oh0_25, oh0_26, oh0_27, oh0_28, oh0_29, oh0_30, oh0_31, oh0_32, oh0_33, oh0_34, oh0_35, oh0_36, oh0_37])), (h0_ways, .inl (cy 2, 14, .inl v_ways))] r := by
  unfold f9_isStep at hM
  refine ct_oi (cc := cX9_isStep) (maxL := 3) (ty := .boolean) (by decide +kernel) rfl (Nat.le_of_ble_eq_true rfl) (lv0 := [(0, .ref h0), (1, .int p1), (2, .int p2)]) rfl ?_
  intro p e s m args below meth c A Q ls hx hb hts hown hml hK hP hD hS hA hret hl
  have hown : s.vm.findClass RX9 = some m.cls := hown
  have k20 := hts (.fieldLink RX9 20 "CaveYearsModel" "ways" "[I") (List.mem_of_getElem? (i := 1) (by decide +kernel))
  have iX9 := (fun w h => (List.mem_cons_of_mem _ (List.mem_append_right _ h)) : ∀ w ∈ wsX90, w ∈ wsX9_isStep)
  refine lv_iload_n hx hb dX9_isStep_0 rfl (lv_at hl 1 rfl) ?_
  refine lv_iload_n hx hb dX9_isStep_1 rfl (lv_at hl 2 rfl) ?_
  refine lv_icmp_eq (tgt := 19) hx hb dX9_isStep_2 (by decide) (fun c2 => ?_) (fun c2 => ?_)
  · have hM := g_pos c2 hM
    refine lv_iconst (v := 1) hx hb dX9_isStep_19 (by decide) ?_
    refine lv_goto (tgt := 24) hx hb dX9_isStep_20 (by decide) ?_
    obtain rfl := si1 hM
    exact hret _ _ _ _ _ dX9_isStep_24 rfl rfl hP hD hS
  · have hM := g_neg c2 hM
    refine lv_aload_n hx hb dX9_isStep_5 rfl (lv_at hl 0 rfl) ?_
    refine va_get (D := D) (ci := 9) (v := .ref h0_ways) (C := RX9) (T := TX9) (N := 38) hx hb hts iX9 hown hK hP 0 rfl rfl 5 (by decide) k20 (fun _ h9 => h9) rfl dX9_isStep_6 ?_
    refine lv_iload_n hx hb dX9_isStep_9 rfl (lv_at hl 1 rfl) ?_
    obtain ⟨h10, hM⟩ := gi_some hM
    refine va_iald hx hb hK hP 1 2 rfl rfl h10 dX9_isStep_10 ?_
    refine lv_iload_n hx hb dX9_isStep_11 rfl (lv_at hl 2 rfl) ?_
    refine lv_ishr hx hb dX9_isStep_12 ?_
    refine lv_iconst (v := 1) hx hb dX9_isStep_13 (by decide) ?_
    refine lv_iand hx hb dX9_isStep_14 ?_
    refine lv_iconst (v := 1) hx hb dX9_isStep_15 (by decide) ?_
    refine lv_icmp_ne (tgt := 23) hx hb dX9_isStep_16 (by decide) (fun c16 => ?_) (fun c16 => ?_)
    · have hM := g_neg c16 hM
      refine lv_iconst (v := 0) hx hb dX9_isStep_23 (by decide) ?_
      obtain rfl := si1 hM
      exact hret _ _ _ _ _ dX9_isStep_24 rfl rfl hP hD hS
    · have hM := g_pos c16 hM
      refine lv_iconst (v := 1) hx hb dX9_isStep_19 (by decide) ?_
      refine lv_goto (tgt := 24) hx hb dX9_isStep_20 (by decide) ?_
      obtain rfl := si1 hM
      exact hret _ _ _ _ _ dX9_isStep_24 rfl rfl hP hD hS
