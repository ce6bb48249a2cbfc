-- ===== X9_longest longest (II)I =====
abbrev r9_longest : Room := { frames := 3, cells := 0, slots := 0, locals := 64 }
def f9_longest_J82 (N : Nat) (x4_30 : Int32) (x5_30 : Int32) (v_leastTime_53 : Nat → Int32) (v_mostTime_53 : Nat → Int32) (r63 : Int32) (rec30 : Int32 → Int32 → Int32 → (Nat → Int32) → (Nat → Int32) → Option (Int32 × Int32 × (Nat → Int32) × (Nat → Int32))) (s0_82 : Int32) : Option (Int32 × Int32 × (Nat → Int32) × (Nat → Int32)) :=
  if (v_mostTime_53 r63.toNatClampNeg) ≤ x4_30 then (rec30 s0_82 x4_30 (x5_30 + (1 : Int32)) v_leastTime_53 v_mostTime_53) else (rec30 s0_82 (v_mostTime_53 r63.toNatClampNeg) (x5_30 + (1 : Int32)) v_leastTime_53 v_mostTime_53)
def f9_longest_L30 (N : Nat) (p1 : Int32) (v_parts : Nat → Int32) (v_rates : Nat → Int32) (v_ways : Nat → Int32) (v_mouths : Nat → Int32) : Nat → Int32 → Int32 → Int32 → (Nat → Int32) → (Nat → Int32) → Option (Int32 × Int32 × (Nat → Int32) × (Nat → Int32))
  | 0, _, _, _, _, _ => none
  | n + 1, x3_30, x4_30, x5_30, v_leastTime_30, v_mostTime_30 => gi (0 : Int32) 2 (if (v_parts (0 : Int32).toNatClampNeg) ≤ x5_30 then (some (x3_30, x4_30, v_leastTime_30, v_mostTime_30)) else (ob1 (f9_isMouth N x5_30 v_parts v_mouths) fun r44 => if r44 = (0 : Int32) then ((f9_longest_L30 N p1 v_parts v_rates v_ways v_mouths n) x3_30 x4_30 (x5_30 + (1 : Int32)) v_leastTime_30 v_mostTime_30) else (ob2 (f9_findSpans N x5_30 v_parts v_rates v_ways v_leastTime_30 v_mostTime_30) fun v_leastTime_53 v_mostTime_53 => ob1 (f9_index N p1 x5_30) fun r63 => gi r63 287 (if (v_mostTime_53 r63.toNatClampNeg) ≤ x4_30 then (f9_longest_J82 N x4_30 x5_30 v_leastTime_53 v_mostTime_53 r63 (f9_longest_L30 N p1 v_parts v_rates v_ways v_mouths n) x3_30) else (f9_longest_J82 N x4_30 x5_30 v_leastTime_53 v_mostTime_53 r63 (f9_longest_L30 N p1 v_parts v_rates v_ways v_mouths n) x5_30)))))
def f9_longest (N : Nat) (p1 : Int32) (p2 : Int32) (v_parts : Nat → Int32) (v_rates : Nat → Int32) (v_ways : Nat → Int32) (v_mouths : Nat → Int32) (v_leastTime : Nat → Int32) (v_mostTime : Nat → Int32) : Option (Int32 × (Nat → Int32) × (Nat → Int32)) :=
  ob1 (f9_in N p1 (1 : Int32) (40 : Int32)) fun r4 => if r4 = (0 : Int32) then (some ((-1000000002 : Int32), v_leastTime, v_mostTime)) else (ob1 (f9_in N p2 (0 : Int32) (1 : Int32)) fun r13 => if r13 = (0 : Int32) then (some ((-1000000002 : Int32), v_leastTime, v_mostTime)) else (ob4 (f9_longest_L30 N p1 v_parts v_rates v_ways v_mouths N (-1 : Int32) (-1 : Int32) (0 : Int32) v_leastTime v_mostTime) fun e3_30 e4_30 v_leastTime_e30 v_mostTime_e30 => if p2 = (0 : Int32) then (some (e3_30, v_leastTime_e30, v_mostTime_e30)) else (some (e4_30, v_leastTime_e30, v_mostTime_e30))))
set_option maxHeartbeats 4000000 in
set_option maxRecDepth 100000 in
theorem c9_longest (l : Launch) (D : va_G) (cy : Nat → ClassId) (N : Nat) (h0 h0_parts h0_rates h0_ways h0_mouths h0_leastTime h0_mostTime : Nat) (oh0_0 oh0_1 oh0_2 oh0_6 oh0_8 oh0_9 oh0_10 oh0_11 oh0_12 oh0_13 oh0_14 oh0_15 oh0_16 oh0_17 oh0_18 oh0_19 oh0_20 oh0_21 oh0_22 oh0_23 oh0_24 oh0_25 oh0_28 oh0_29 oh0_30 oh0_31 oh0_32 oh0_33 oh0_34 oh0_35 oh0_36 oh0_37 : Value) (p1 : Int32) (p2 : Int32) (v_parts : Nat → Int32) (v_rates : Nat → Int32) (v_ways : Nat → Int32) (v_mouths : Nat → Int32) (v_leastTime : Nat → Int32) (v_mostTime : Nat → Int32) (r : Int32) (nv_leastTime : Nat → Int32) (nv_mostTime : Nat → Int32) (hM : f9_longest N p1 p2 v_parts v_rates v_ways v_mouths v_leastTime v_mostTime = some (r, nv_leastTime, nv_mostTime)) (sz : Nat) : CTi l yX9_longest wsX9_longest r9_longest [.ref h0, .int p1, .int p2] D cy sz [(h0, .inr (9, [oh0_0, oh0_1, oh0_2, .ref h0_parts, .ref h0_rates, .ref h0_ways, oh0_6, .ref h0_mouths, oh0_8, oh0_9, oh0_10, oh0_11, oh0_12, oh0_13, oh0_14, oh0_15, oh0_16, oh0_17, oh0_18, oh0_19, oh0_20, oh0_21, oh0_22, oh0_23, oh0_24, oh0_25, .ref h0_leastTime, .ref h0_mostTime, oh0_28, oh0_29, oh0_30, oh0_31, oh0_32, oh0_33, oh0_34, oh0_35, oh0_36, oh0_37])), (h0_parts, .inl (cy 2, 2, .inl v_parts)), (h0_rates, .inl (cy 2, 14, .inl v_rates)), (h0_ways, .inl (cy 2, 14, .inl v_ways)), (h0_mouths, .inl (cy 2, 2, .inl v_mouths)), (h0_leastTime, .inl (cy 2, 287, .inl v_leastTime)), (h0_mostTime, .inl (cy 2, 287, .inl v_mostTime))] [(h0, .inr (9, [oh0_0, oh0_1, oh0_2, .ref h0_parts, .ref h0_rates, .ref h0_ways, oh0_6, .ref h0_mouths, oh0_8, oh0_9, oh0_10, oh0_11, oh0_12, oh0_13, oh0_14, oh0_15, oh0_16, oh0_17, oh0_18, oh0_19, oh0_20, oh0_21, oh0_22, oh0_23, oh0_24, oh0_25, .ref h0_leastTime, .ref h0_mostTime, oh0_28, oh0_29, oh0_30, oh0_31, oh0_32, oh0_33, oh0_34, oh0_35, oh0_36, oh0_37])), (h0_parts, .inl (cy 2, 2, .inl v_parts)), (h0_rates, .inl (cy 2, 14, .inl v_rates)), (h0_ways, .inl (cy 2, 14, .inl v_ways)), (h0_mouths, .inl (cy 2, 2, .inl v_mouths)), (h0_leastTime, .inl (cy 2, 287, .inl nv_leastTime)), (h0_mostTime, .inl (cy 2, 287, .inl nv_mostTime))] r := by
  unfold f9_longest at hM
  refine ct_oi (cc := cX9_longest) (maxL := 7) (ty := .int) (by decide +kernel) rfl (Nat.le_of_ble_eq_true rfl) (lv0 := [(0, .ref h0), (1, .int p1), (2, .int p2)]) rfl ?_
  intro p e s m args below meth c A Q ls hx hb hts hown hml hK hP hD hS hA hret hl
  have hown : s.vm.findClass RX9 = some m.cls := hown
  have k99 := hts (.constant RX9 99 (-1000000002)) (List.mem_of_getElem? (i := 1) (by decide +kernel))
  have k13 := hts (.fieldLink RX9 13 "CaveYearsModel" "parts" "[I") (List.mem_of_getElem? (i := 2) (by decide +kernel))
  have iX9 := (fun w h => (List.mem_cons_of_mem _ (List.mem_append_right _ h)) : ∀ w ∈ wsX90, w ∈ wsX9_longest)
  have k63 := hts (.fieldLink RX9 63 "CaveYearsModel" "mostTime" "[I") (List.mem_of_getElem? (i := 3) (by decide +kernel))
  refine lv_iload_n hx hb dX9_longest_0 rfl (lv_at hl 1 rfl) ?_
  refine lv_iconst (v := 1) hx hb dX9_longest_1 (by decide) ?_
  refine lv_bipush (v := 40) hx hb dX9_longest_2 (by decide) ?_
  obtain ⟨r4, hc4, hM⟩ := ob1_some hM
  refine cl_si (As := [.int p1, .int (1 : Int32), .int (40 : Int32)]) (rest := []) (wr := [(h0, .inr (9, [oh0_0, oh0_1, oh0_2, .ref h0_parts, .ref h0_rates, .ref h0_ways, oh0_6, .ref h0_mouths, oh0_8, oh0_9, oh0_10, oh0_11, oh0_12, oh0_13, oh0_14, oh0_15, oh0_16, oh0_17, oh0_18, oh0_19, oh0_20, oh0_21, oh0_22, oh0_23, oh0_24, oh0_25, .ref h0_leastTime, .ref h0_mostTime, oh0_28, oh0_29, oh0_30, oh0_31, oh0_32, oh0_33, oh0_34, oh0_35, oh0_36, oh0_37])), (h0_parts, .inl (cy 2, 2, .inl v_parts)), (h0_rates, .inl (cy 2, 14, .inl v_rates)), (h0_ways, .inl (cy 2, 14, .inl v_ways)), (h0_mouths, .inl (cy 2, 2, .inl v_mouths)), (h0_leastTime, .inl (cy 2, 287, .inl v_leastTime)), (h0_mostTime, .inl (cy 2, 287, .inl v_mostTime))]) (ws2 := [(h0, .inr (9, [oh0_0, oh0_1, oh0_2, .ref h0_parts, .ref h0_rates, .ref h0_ways, oh0_6, .ref h0_mouths, oh0_8, oh0_9, oh0_10, oh0_11, oh0_12, oh0_13, oh0_14, oh0_15, oh0_16, oh0_17, oh0_18, oh0_19, oh0_20, oh0_21, oh0_22, oh0_23, oh0_24, oh0_25, .ref h0_leastTime, .ref h0_mostTime, oh0_28, oh0_29, oh0_30, oh0_31, oh0_32, oh0_33, oh0_34, oh0_35, oh0_36, oh0_37])), (h0_parts, .inl (cy 2, 2, .inl v_parts)), (h0_rates, .inl (cy 2, 14, .inl v_rates)), (h0_ways, .inl (cy 2, 14, .inl v_ways)), (h0_mouths, .inl (cy 2, 2, .inl v_mouths)), (h0_leastTime, .inl (cy 2, 287, .inl v_leastTime)), (h0_mostTime, .inl (cy 2, 287, .inl v_mostTime))]) (isC := []) (isR := [0, 1, 2, 3, 4, 5, 6]) (pm := [0, 1, 2, 3, 4, 5, 6]) hx hb hml hown hts (c9_in l D cy N p1 (1 : Int32) (40 : Int32) r4 hc4) (va_cwS 3 hts gX9_longest_X9_in rfl rfl rfl (by decide +kernel) ⟨Nat.le_of_ble_eq_true rfl, Nat.le_of_ble_eq_true rfl⟩) hK hP hD hS hA rfl rfl rfl (by decide) rfl rfl rfl hl.1 (Nat.le_of_ble_eq_true rfl) dX9_longest_4 ⟨Nat.zero_le _, Nat.zero_le _⟩ rfl rfl (fun H locs hP hD hS => ?_)
  refine lv_if_eq (tgt := 19) hx hb dX9_longest_7 (by decide) (fun c7 => ?_) (fun c7 => ?_)
  · have hM := g_pos c7 hM
    refine lv_ldc (v := -1000000002) hx hb hown k99 dX9_longest_19 ?_
    obtain ⟨rfl, rfl, rfl⟩ := si3 hM
    exact hret _ _ _ _ _ dX9_longest_21 rfl rfl hP hD hS
  · have hM := g_neg c7 hM
    refine lv_iload_n hx hb dX9_longest_10 rfl (lv_at hl 2 rfl) ?_
    refine lv_iconst (v := 0) hx hb dX9_longest_11 (by decide) ?_
    refine lv_iconst (v := 1) hx hb dX9_longest_12 (by decide) ?_
    obtain ⟨r13, hc13, hM⟩ := ob1_some hM
    refine cl_si (As := [.int p2, .int (0 : Int32), .int (1 : Int32)]) (rest := []) (wr := [(h0, .inr (9, [oh0_0, oh0_1, oh0_2, .ref h0_parts, .ref h0_rates, .ref h0_ways, oh0_6, .ref h0_mouths, oh0_8, oh0_9, oh0_10, oh0_11, oh0_12, oh0_13, oh0_14, oh0_15, oh0_16, oh0_17, oh0_18, oh0_19, oh0_20, oh0_21, oh0_22, oh0_23, oh0_24, oh0_25, .ref h0_leastTime, .ref h0_mostTime, oh0_28, oh0_29, oh0_30, oh0_31, oh0_32, oh0_33, oh0_34, oh0_35, oh0_36, oh0_37])), (h0_parts, .inl (cy 2, 2, .inl v_parts)), (h0_rates, .inl (cy 2, 14, .inl v_rates)), (h0_ways, .inl (cy 2, 14, .inl v_ways)), (h0_mouths, .inl (cy 2, 2, .inl v_mouths)), (h0_leastTime, .inl (cy 2, 287, .inl v_leastTime)), (h0_mostTime, .inl (cy 2, 287, .inl v_mostTime))]) (ws2 := [(h0, .inr (9, [oh0_0, oh0_1, oh0_2, .ref h0_parts, .ref h0_rates, .ref h0_ways, oh0_6, .ref h0_mouths, oh0_8, oh0_9, oh0_10, oh0_11, oh0_12, oh0_13, oh0_14, oh0_15, oh0_16, oh0_17, oh0_18, oh0_19, oh0_20, oh0_21, oh0_22, oh0_23, oh0_24, oh0_25, .ref h0_leastTime, .ref h0_mostTime, oh0_28, oh0_29, oh0_30, oh0_31, oh0_32, oh0_33, oh0_34, oh0_35, oh0_36, oh0_37])), (h0_parts, .inl (cy 2, 2, .inl v_parts)), (h0_rates, .inl (cy 2, 14, .inl v_rates)), (h0_ways, .inl (cy 2, 14, .inl v_ways)), (h0_mouths, .inl (cy 2, 2, .inl v_mouths)), (h0_leastTime, .inl (cy 2, 287, .inl v_leastTime)), (h0_mostTime, .inl (cy 2, 287, .inl v_mostTime))]) (isC := []) (isR := [0, 1, 2, 3, 4, 5, 6]) (pm := [0, 1, 2, 3, 4, 5, 6]) hx hb hml hown hts (c9_in l D cy N p2 (0 : Int32) (1 : Int32) r13 hc13) (va_cwS 3 hts gX9_longest_X9_in rfl rfl rfl (by decide +kernel) ⟨Nat.le_of_ble_eq_true rfl, Nat.le_of_ble_eq_true rfl⟩) hK hP hD hS hA rfl rfl rfl (by decide) rfl rfl rfl hl.1 (Nat.le_of_ble_eq_true rfl) dX9_longest_13 ⟨Nat.zero_le _, Nat.zero_le _⟩ rfl rfl (fun H locs hP hD hS => ?_)
    refine lv_if_ne (tgt := 22) hx hb dX9_longest_16 (by decide) (fun c16 => ?_) (fun c16 => ?_)
    · have hM := g_neg c16 hM
      refine lv_iconst (v := -1) hx hb dX9_longest_22 (by decide) ?_
      refine lv_istore_n (lv' := [(3, .int (-1 : Int32)), (0, .ref h0), (1, .int p1), (2, .int p2)]) hx hb dX9_longest_23 rfl hl (by decide) rfl (fun ls hl => ?_)
      refine lv_iconst (v := -1) hx hb dX9_longest_24 (by decide) ?_
      refine lv_istore (lv' := [(4, .int (-1 : Int32)), (3, .int (-1 : Int32)), (0, .ref h0), (1, .int p1), (2, .int p2)]) hx hb dX9_longest_25 hl (by decide) rfl (fun ls hl => ?_)
      refine lv_iconst (v := 0) hx hb dX9_longest_27 (by decide) ?_
      refine lv_istore (lv' := [(5, .int (0 : Int32)), (4, .int (-1 : Int32)), (3, .int (-1 : Int32)), (0, .ref h0), (1, .int p1), (2, .int p2)]) hx hb dX9_longest_28 hl (by decide) rfl (fun ls hl => ?_)
      have L30 : ∀ (n : Nat) (x3_30 : Int32) (x4_30 : Int32) (x5_30 : Int32) (v_leastTime_30 : Nat → Int32) (v_mostTime_30 : Nat → Int32) (e3_30 : Int32) (e4_30 : Int32) (v_leastTime_e30 : Nat → Int32) (v_mostTime_e30 : Nat → Int32) (H : Heap) (locs : List Loc) (ls : Array Slot), f9_longest_L30 N p1 v_parts v_rates v_ways v_mouths n x3_30 x4_30 x5_30 v_leastTime_30 v_mostTime_30 = some (e3_30, e4_30, v_leastTime_e30, v_mostTime_e30) → va_P D vwCl [(h0, .inr (9, [oh0_0, oh0_1, oh0_2, .ref h0_parts, .ref h0_rates, .ref h0_ways, oh0_6, .ref h0_mouths, oh0_8, oh0_9, oh0_10, oh0_11, oh0_12, oh0_13, oh0_14, oh0_15, oh0_16, oh0_17, oh0_18, oh0_19, oh0_20, oh0_21, oh0_22, oh0_23, oh0_24, oh0_25, .ref h0_leastTime, .ref h0_mostTime, oh0_28, oh0_29, oh0_30, oh0_31, oh0_32, oh0_33, oh0_34, oh0_35, oh0_36, oh0_37])), (h0_parts, .inl (cy 2, 2, .inl v_parts)), (h0_rates, .inl (cy 2, 14, .inl v_rates)), (h0_ways, .inl (cy 2, 14, .inl v_ways)), (h0_mouths, .inl (cy 2, 2, .inl v_mouths)), (h0_leastTime, .inl (cy 2, 287, .inl v_leastTime_30)), (h0_mostTime, .inl (cy 2, 287, .inl v_mostTime_30))] H → va_D A [(h0, .inr (9, [oh0_0, oh0_1, oh0_2, .ref h0_parts, .ref h0_rates, .ref h0_ways, oh0_6, .ref h0_mouths, oh0_8, oh0_9, oh0_10, oh0_11, oh0_12, oh0_13, oh0_14, oh0_15, oh0_16, oh0_17, oh0_18, oh0_19, oh0_20, oh0_21, oh0_22, oh0_23, oh0_24, oh0_25, .ref h0_leastTime, .ref h0_mostTime, oh0_28, oh0_29, oh0_30, oh0_31, oh0_32, oh0_33, oh0_34, oh0_35, oh0_36, oh0_37])), (h0_parts, .inl (cy 2, 2, .inl v_parts)), (h0_rates, .inl (cy 2, 14, .inl v_rates)), (h0_ways, .inl (cy 2, 14, .inl v_ways)), (h0_mouths, .inl (cy 2, 2, .inl v_mouths)), (h0_leastTime, .inl (cy 2, 287, .inl v_leastTime_30)), (h0_mostTime, .inl (cy 2, 287, .inl v_mostTime_30))] → va_S A s.heap H locs → lv_has ls 7 [(0, .ref h0), (1, .int p1), (2, .int p2), (3, .int x3_30), (4, .int x4_30), (5, .int x5_30)] → (∀ (H : Heap) (locs : List Loc) (ls : Array Slot), va_P D vwCl [(h0, .inr (9, [oh0_0, oh0_1, oh0_2, .ref h0_parts, .ref h0_rates, .ref h0_ways, oh0_6, .ref h0_mouths, oh0_8, oh0_9, oh0_10, oh0_11, oh0_12, oh0_13, oh0_14, oh0_15, oh0_16, oh0_17, oh0_18, oh0_19, oh0_20, oh0_21, oh0_22, oh0_23, oh0_24, oh0_25, .ref h0_leastTime, .ref h0_mostTime, oh0_28, oh0_29, oh0_30, oh0_31, oh0_32, oh0_33, oh0_34, oh0_35, oh0_36, oh0_37])), (h0_parts, .inl (cy 2, 2, .inl v_parts)), (h0_rates, .inl (cy 2, 14, .inl v_rates)), (h0_ways, .inl (cy 2, 14, .inl v_ways)), (h0_mouths, .inl (cy 2, 2, .inl v_mouths)), (h0_leastTime, .inl (cy 2, 287, .inl v_leastTime_e30)), (h0_mostTime, .inl (cy 2, 287, .inl v_mostTime_e30))] H → va_D A [(h0, .inr (9, [oh0_0, oh0_1, oh0_2, .ref h0_parts, .ref h0_rates, .ref h0_ways, oh0_6, .ref h0_mouths, oh0_8, oh0_9, oh0_10, oh0_11, oh0_12, oh0_13, oh0_14, oh0_15, oh0_16, oh0_17, oh0_18, oh0_19, oh0_20, oh0_21, oh0_22, oh0_23, oh0_24, oh0_25, .ref h0_leastTime, .ref h0_mostTime, oh0_28, oh0_29, oh0_30, oh0_31, oh0_32, oh0_33, oh0_34, oh0_35, oh0_36, oh0_37])), (h0_parts, .inl (cy 2, 2, .inl v_parts)), (h0_rates, .inl (cy 2, 14, .inl v_rates)), (h0_ways, .inl (cy 2, 14, .inl v_ways)), (h0_mouths, .inl (cy 2, 2, .inl v_mouths)), (h0_leastTime, .inl (cy 2, 287, .inl v_leastTime_e30)), (h0_mostTime, .inl (cy 2, 287, .inl v_mostTime_e30))] → va_S A s.heap H locs → lv_has ls 7 [(2, .int p2), (3, .int e3_30), (4, .int e4_30)] → W p l e r9_longest s m args below meth c H locs 0 0 Q (F0 m 105 ls [])) → W p l e r9_longest s m args below meth c H locs 0 0 Q (F0 m 30 ls []) := by
        intro n30
        induction n30 with
        | zero =>
          intro x3_30 x4_30 x5_30 v_leastTime_30 v_mostTime_30 e3_30 e4_30 v_leastTime_e30 v_mostTime_e30 H locs ls hM
          exact absurd hM (by simp [f9_longest_L30])
        | succ n30 ih30 =>
          intro x3_30 x4_30 x5_30 v_leastTime_30 v_mostTime_30 e3_30 e4_30 v_leastTime_e30 v_mostTime_e30 H locs ls hM hP hD hS hl K
          rw [f9_longest_L30] at hM
          refine lv_iload hx hb dX9_longest_30 (lv_at hl 5 rfl) ?_
          refine lv_aload_n hx hb dX9_longest_32 rfl (lv_at hl 0 rfl) ?_
          refine va_get (D := D) (ci := 9) (v := .ref h0_parts) (C := RX9) (T := TX9) (N := 38) hx hb hts iX9 hown hK hP 0 rfl rfl 3 (by decide) k13 (fun _ h9 => h9) rfl dX9_longest_33 ?_
          refine lv_iconst (v := 0) hx hb dX9_longest_36 (by decide) ?_
          obtain ⟨h37, hM⟩ := gi_some hM
          refine va_iald hx hb hK hP 1 2 rfl rfl h37 dX9_longest_37 ?_
          refine lv_icmp_ge (tgt := 105) hx hb dX9_longest_38 (by decide) (fun c38 => ?_) (fun c38 => ?_)
          · have hM := g_pos c38 hM
            obtain ⟨rfl, rfl, rfl, rfl⟩ := si4 hM
            exact K _ _ _ hP hD hS (lv_sub hl [2, 3, 4] rfl)
          · have hM := g_neg c38 hM
            refine lv_aload_n hx hb dX9_longest_41 rfl (lv_at hl 0 rfl) ?_
            refine lv_iload hx hb dX9_longest_42 (lv_at hl 5 rfl) ?_
            obtain ⟨r44, hc44, hM⟩ := ob1_some hM
            refine cl_vi (As := [.int x5_30]) (rest := []) (ci := 9) (q0 := 0) (wr := [(h0_rates, .inl (cy 2, 14, .inl v_rates)), (h0_ways, .inl (cy 2, 14, .inl v_ways)), (h0_leastTime, .inl (cy 2, 287, .inl v_leastTime_30)), (h0_mostTime, .inl (cy 2, 287, .inl v_mostTime_30))]) (ws2 := [(h0, .inr (9, [oh0_0, oh0_1, oh0_2, .ref h0_parts, .ref h0_rates, .ref h0_ways, oh0_6, .ref h0_mouths, oh0_8, oh0_9, oh0_10, oh0_11, oh0_12, oh0_13, oh0_14, oh0_15, oh0_16, oh0_17, oh0_18, oh0_19, oh0_20, oh0_21, oh0_22, oh0_23, oh0_24, oh0_25, .ref h0_leastTime, .ref h0_mostTime, oh0_28, oh0_29, oh0_30, oh0_31, oh0_32, oh0_33, oh0_34, oh0_35, oh0_36, oh0_37])), (h0_parts, .inl (cy 2, 2, .inl v_parts)), (h0_rates, .inl (cy 2, 14, .inl v_rates)), (h0_ways, .inl (cy 2, 14, .inl v_ways)), (h0_mouths, .inl (cy 2, 2, .inl v_mouths)), (h0_leastTime, .inl (cy 2, 287, .inl v_leastTime_30)), (h0_mostTime, .inl (cy 2, 287, .inl v_mostTime_30))]) (isC := [0, 1, 4]) (isR := [2, 3, 5, 6]) (pm := [4, 5, 0, 1, 6, 2, 3]) hx hb hml hown hts (c9_isMouth l D cy N h0 h0_parts h0_mouths oh0_0 oh0_1 oh0_2 (.ref h0_rates) (.ref h0_ways) oh0_6 oh0_8 oh0_9 oh0_10 oh0_11 oh0_12 oh0_13 oh0_14 oh0_15 oh0_16 oh0_17 oh0_18 oh0_19 oh0_20 oh0_21 oh0_22 oh0_23 oh0_24 oh0_25 (.ref h0_leastTime) (.ref h0_mostTime) oh0_28 oh0_29 oh0_30 oh0_31 oh0_32 oh0_33 oh0_34 oh0_35 oh0_36 oh0_37 x5_30 v_parts v_mouths r44 hc44) (cwV 1 hts gX9_longest_X9_isMouth rfl rfl rfl (by decide +kernel) ⟨Nat.le_of_ble_eq_true rfl, Nat.le_of_ble_eq_true rfl⟩) hK hP hD hS hA rfl rfl rfl rfl rfl (by decide) rfl rfl rfl hl.1 (Nat.le_of_ble_eq_true rfl) dX9_longest_44 ⟨Nat.zero_le _, Nat.zero_le _⟩ rfl rfl (fun H locs hP hD hS => ?_)
            refine lv_if_eq (tgt := 99) hx hb dX9_longest_47 (by decide) (fun c47 => ?_) (fun c47 => ?_)
            · have hM := g_pos c47 hM
              refine lv_iinc (v := x5_30 + (1 : Int32)) (lv' := [(5, .int (x5_30 + (1 : Int32))), (0, .ref h0), (1, .int p1), (2, .int p2), (3, .int x3_30), (4, .int x4_30)]) hx hb dX9_longest_99 hl (k := 5) rfl rfl (by decide) rfl (fun ls hl => ?_)
              refine lv_goto (tgt := 30) hx hb dX9_longest_102 (by decide) ?_
              exact ih30 x3_30 x4_30 (x5_30 + (1 : Int32)) v_leastTime_30 v_mostTime_30 e3_30 e4_30 v_leastTime_e30 v_mostTime_e30 _ _ _ hM hP hD hS (lv_sub hl [1, 2, 3, 4, 5, 0] rfl) K
            · have hM := g_neg c47 hM
              refine lv_aload_n hx hb dX9_longest_50 rfl (lv_at hl 0 rfl) ?_
              refine lv_iload hx hb dX9_longest_51 (lv_at hl 5 rfl) ?_
              obtain ⟨v_leastTime_53, v_mostTime_53, hc53, hM⟩ := ob2_some hM
              refine cl_vv (As := [.int x5_30]) (rest := []) (ci := 9) (q0 := 0) (wr := [(h0_mouths, .inl (cy 2, 2, .inl v_mouths))]) (ws2 := [(h0, .inr (9, [oh0_0, oh0_1, oh0_2, .ref h0_parts, .ref h0_rates, .ref h0_ways, oh0_6, .ref h0_mouths, oh0_8, oh0_9, oh0_10, oh0_11, oh0_12, oh0_13, oh0_14, oh0_15, oh0_16, oh0_17, oh0_18, oh0_19, oh0_20, oh0_21, oh0_22, oh0_23, oh0_24, oh0_25, .ref h0_leastTime, .ref h0_mostTime, oh0_28, oh0_29, oh0_30, oh0_31, oh0_32, oh0_33, oh0_34, oh0_35, oh0_36, oh0_37])), (h0_parts, .inl (cy 2, 2, .inl v_parts)), (h0_rates, .inl (cy 2, 14, .inl v_rates)), (h0_ways, .inl (cy 2, 14, .inl v_ways)), (h0_mouths, .inl (cy 2, 2, .inl v_mouths)), (h0_leastTime, .inl (cy 2, 287, .inl v_leastTime_53)), (h0_mostTime, .inl (cy 2, 287, .inl v_mostTime_53))]) (isC := [0, 1, 2, 3, 5, 6]) (isR := [4]) (pm := [1, 2, 3, 4, 0, 5, 6]) hx hb hml hown hts (c9_findSpans l D cy N h0 h0_parts h0_rates h0_ways h0_leastTime h0_mostTime oh0_0 oh0_1 oh0_2 oh0_6 (.ref h0_mouths) oh0_8 oh0_9 oh0_10 oh0_11 oh0_12 oh0_13 oh0_14 oh0_15 oh0_16 oh0_17 oh0_18 oh0_19 oh0_20 oh0_21 oh0_22 oh0_23 oh0_24 oh0_25 oh0_28 oh0_29 oh0_30 oh0_31 oh0_32 oh0_33 oh0_34 oh0_35 oh0_36 oh0_37 x5_30 v_parts v_rates v_ways v_leastTime_30 v_mostTime_30 v_leastTime_53 v_mostTime_53 hc53) (cwV 1 hts gX9_longest_X9_findSpans rfl rfl rfl (by decide +kernel) ⟨Nat.le_of_ble_eq_true rfl, Nat.le_of_ble_eq_true rfl⟩) hK hP hD hS hA rfl rfl rfl rfl rfl (by decide) rfl rfl rfl hl.1 (Nat.le_of_ble_eq_true rfl) dX9_longest_53 ⟨Nat.zero_le _, Nat.zero_le _⟩ rfl rfl (fun H locs hP hD hS => ?_)
              refine lv_aload_n hx hb dX9_longest_56 rfl (lv_at hl 0 rfl) ?_
              refine va_get (D := D) (ci := 9) (v := .ref h0_mostTime) (C := RX9) (T := TX9) (N := 38) hx hb hts iX9 hown hK hP 0 rfl rfl 27 (by decide) k63 (fun _ h9 => h9) rfl dX9_longest_57 ?_
              refine lv_iload_n hx hb dX9_longest_60 rfl (lv_at hl 1 rfl) ?_
              refine lv_iload hx hb dX9_longest_61 (lv_at hl 5 rfl) ?_
              obtain ⟨r63, hc63, hM⟩ := ob1_some hM
              refine cl_si (As := [.int p1, .int x5_30]) (rest := [.ref h0_mostTime]) (wr := [(h0, .inr (9, [oh0_0, oh0_1, oh0_2, .ref h0_parts, .ref h0_rates, .ref h0_ways, oh0_6, .ref h0_mouths, oh0_8, oh0_9, oh0_10, oh0_11, oh0_12, oh0_13, oh0_14, oh0_15, oh0_16, oh0_17, oh0_18, oh0_19, oh0_20, oh0_21, oh0_22, oh0_23, oh0_24, oh0_25, .ref h0_leastTime, .ref h0_mostTime, oh0_28, oh0_29, oh0_30, oh0_31, oh0_32, oh0_33, oh0_34, oh0_35, oh0_36, oh0_37])), (h0_parts, .inl (cy 2, 2, .inl v_parts)), (h0_rates, .inl (cy 2, 14, .inl v_rates)), (h0_ways, .inl (cy 2, 14, .inl v_ways)), (h0_mouths, .inl (cy 2, 2, .inl v_mouths)), (h0_leastTime, .inl (cy 2, 287, .inl v_leastTime_53)), (h0_mostTime, .inl (cy 2, 287, .inl v_mostTime_53))]) (ws2 := [(h0, .inr (9, [oh0_0, oh0_1, oh0_2, .ref h0_parts, .ref h0_rates, .ref h0_ways, oh0_6, .ref h0_mouths, oh0_8, oh0_9, oh0_10, oh0_11, oh0_12, oh0_13, oh0_14, oh0_15, oh0_16, oh0_17, oh0_18, oh0_19, oh0_20, oh0_21, oh0_22, oh0_23, oh0_24, oh0_25, .ref h0_leastTime, .ref h0_mostTime, oh0_28, oh0_29, oh0_30, oh0_31, oh0_32, oh0_33, oh0_34, oh0_35, oh0_36, oh0_37])), (h0_parts, .inl (cy 2, 2, .inl v_parts)), (h0_rates, .inl (cy 2, 14, .inl v_rates)), (h0_ways, .inl (cy 2, 14, .inl v_ways)), (h0_mouths, .inl (cy 2, 2, .inl v_mouths)), (h0_leastTime, .inl (cy 2, 287, .inl v_leastTime_53)), (h0_mostTime, .inl (cy 2, 287, .inl v_mostTime_53))]) (isC := []) (isR := [0, 1, 2, 3, 4, 5, 6]) (pm := [0, 1, 2, 3, 4, 5, 6]) hx hb hml hown hts (c9_index l D cy N p1 x5_30 r63 hc63) (va_cwS 2 hts gX9_longest_X9_index rfl rfl rfl (by decide +kernel) ⟨Nat.le_of_ble_eq_true rfl, Nat.le_of_ble_eq_true rfl⟩) hK hP hD hS hA rfl rfl rfl (by decide) rfl rfl rfl hl.1 (Nat.le_of_ble_eq_true rfl) dX9_longest_63 ⟨Nat.zero_le _, Nat.zero_le _⟩ rfl rfl (fun H locs hP hD hS => ?_)
              obtain ⟨h66, hM⟩ := gi_some hM
              refine va_iald hx hb hK hP 6 2 rfl rfl h66 dX9_longest_66 ?_
              refine lv_istore (lv' := [(6, .int (v_mostTime_53 r63.toNatClampNeg)), (0, .ref h0), (1, .int p1), (2, .int p2), (3, .int x3_30), (4, .int x4_30), (5, .int x5_30)]) hx hb dX9_longest_67 hl (by decide) rfl (fun ls hl => ?_)
              refine lv_iload hx hb dX9_longest_69 (lv_at hl 0 rfl) ?_
              refine lv_iload hx hb dX9_longest_71 (lv_at hl 5 rfl) ?_
              have K82 : ∀ (s0_82 : Int32) (H : Heap) (locs : List Loc) (ls : Array Slot), f9_longest_J82 N x4_30 x5_30 v_leastTime_53 v_mostTime_53 r63 (f9_longest_L30 N p1 v_parts v_rates v_ways v_mouths n30) s0_82 = some (e3_30, e4_30, v_leastTime_e30, v_mostTime_e30) → va_P D vwCl [(h0, .inr (9, [oh0_0, oh0_1, oh0_2, .ref h0_parts, .ref h0_rates, .ref h0_ways, oh0_6, .ref h0_mouths, oh0_8, oh0_9, oh0_10, oh0_11, oh0_12, oh0_13, oh0_14, oh0_15, oh0_16, oh0_17, oh0_18, oh0_19, oh0_20, oh0_21, oh0_22, oh0_23, oh0_24, oh0_25, .ref h0_leastTime, .ref h0_mostTime, oh0_28, oh0_29, oh0_30, oh0_31, oh0_32, oh0_33, oh0_34, oh0_35, oh0_36, oh0_37])), (h0_parts, .inl (cy 2, 2, .inl v_parts)), (h0_rates, .inl (cy 2, 14, .inl v_rates)), (h0_ways, .inl (cy 2, 14, .inl v_ways)), (h0_mouths, .inl (cy 2, 2, .inl v_mouths)), (h0_leastTime, .inl (cy 2, 287, .inl v_leastTime_53)), (h0_mostTime, .inl (cy 2, 287, .inl v_mostTime_53))] H → va_D A [(h0, .inr (9, [oh0_0, oh0_1, oh0_2, .ref h0_parts, .ref h0_rates, .ref h0_ways, oh0_6, .ref h0_mouths, oh0_8, oh0_9, oh0_10, oh0_11, oh0_12, oh0_13, oh0_14, oh0_15, oh0_16, oh0_17, oh0_18, oh0_19, oh0_20, oh0_21, oh0_22, oh0_23, oh0_24, oh0_25, .ref h0_leastTime, .ref h0_mostTime, oh0_28, oh0_29, oh0_30, oh0_31, oh0_32, oh0_33, oh0_34, oh0_35, oh0_36, oh0_37])), (h0_parts, .inl (cy 2, 2, .inl v_parts)), (h0_rates, .inl (cy 2, 14, .inl v_rates)), (h0_ways, .inl (cy 2, 14, .inl v_ways)), (h0_mouths, .inl (cy 2, 2, .inl v_mouths)), (h0_leastTime, .inl (cy 2, 287, .inl v_leastTime_53)), (h0_mostTime, .inl (cy 2, 287, .inl v_mostTime_53))] → va_S A s.heap H locs → lv_has ls 7 [(0, .ref h0), (1, .int p1), (2, .int p2), (4, .int x4_30), (5, .int x5_30), (6, .int (v_mostTime_53 r63.toNatClampNeg))] → W p l e r9_longest s m args below meth c H locs 0 0 Q (F0 m 82 ls [.int s0_82]) := by
                intro s0_82 H locs ls hM hP hD hS hl
                unfold f9_longest_J82 at hM
                refine lv_istore_n (lv' := [(3, .int s0_82), (0, .ref h0), (1, .int p1), (2, .int p2), (4, .int x4_30), (5, .int x5_30), (6, .int (v_mostTime_53 r63.toNatClampNeg))]) hx hb dX9_longest_82 rfl hl (by decide) rfl (fun ls hl => ?_)
                refine lv_iload hx hb dX9_longest_83 (lv_at hl 6 rfl) ?_
                refine lv_iload hx hb dX9_longest_85 (lv_at hl 4 rfl) ?_
                refine lv_icmp_le (tgt := 95) hx hb dX9_longest_87 (by decide) (fun c87 => ?_) (fun c87 => ?_)
                · have hM := g_pos c87 hM
                  refine lv_iload hx hb dX9_longest_95 (lv_at hl 4 rfl) ?_
                  refine lv_istore (lv' := [(4, .int x4_30), (3, .int s0_82), (0, .ref h0), (1, .int p1), (2, .int p2), (5, .int x5_30), (6, .int (v_mostTime_53 r63.toNatClampNeg))]) hx hb dX9_longest_97 hl (by decide) rfl (fun ls hl => ?_)
                  refine lv_iinc (v := x5_30 + (1 : Int32)) (lv' := [(5, .int (x5_30 + (1 : Int32))), (4, .int x4_30), (3, .int s0_82), (0, .ref h0), (1, .int p1), (2, .int p2), (6, .int (v_mostTime_53 r63.toNatClampNeg))]) hx hb dX9_longest_99 hl (k := 5) rfl rfl (by decide) rfl (fun ls hl => ?_)
                  refine lv_goto (tgt := 30) hx hb dX9_longest_102 (by decide) ?_
                  exact ih30 s0_82 x4_30 (x5_30 + (1 : Int32)) v_leastTime_53 v_mostTime_53 e3_30 e4_30 v_leastTime_e30 v_mostTime_e30 _ _ _ hM hP hD hS (lv_sub hl [3, 4, 5, 2, 1, 0] rfl) K
                · have hM := g_neg c87 hM
                  refine lv_iload hx hb dX9_longest_90 (lv_at hl 6 rfl) ?_
                  refine lv_goto (tgt := 97) hx hb dX9_longest_92 (by decide) ?_
                  refine lv_istore (lv' := [(4, .int (v_mostTime_53 r63.toNatClampNeg)), (3, .int s0_82), (0, .ref h0), (1, .int p1), (2, .int p2), (5, .int x5_30), (6, .int (v_mostTime_53 r63.toNatClampNeg))]) hx hb dX9_longest_97 hl (by decide) rfl (fun ls hl => ?_)
                  refine lv_iinc (v := x5_30 + (1 : Int32)) (lv' := [(5, .int (x5_30 + (1 : Int32))), (4, .int (v_mostTime_53 r63.toNatClampNeg)), (3, .int s0_82), (0, .ref h0), (1, .int p1), (2, .int p2), (6, .int (v_mostTime_53 r63.toNatClampNeg))]) hx hb dX9_longest_99 hl (k := 5) rfl rfl (by decide) rfl (fun ls hl => ?_)
                  refine lv_goto (tgt := 30) hx hb dX9_longest_102 (by decide) ?_
                  exact ih30 s0_82 (v_mostTime_53 r63.toNatClampNeg) (x5_30 + (1 : Int32)) v_leastTime_53 v_mostTime_53 e3_30 e4_30 v_leastTime_e30 v_mostTime_e30 _ _ _ hM hP hD hS (lv_sub hl [3, 4, 5, 2, 1, 0] rfl) K
              refine lv_icmp_le (tgt := 81) hx hb dX9_longest_73 (by decide) (fun c73 => ?_) (fun c73 => ?_)
              · have hM := g_pos c73 hM
                refine lv_iload_n hx hb dX9_longest_81 rfl (lv_at hl 4 rfl) ?_
                exact K82 x3_30 _ _ _ hM hP hD hS (lv_sub hl [1, 2, 3, 5, 6, 0] rfl)
              · have hM := g_neg c73 hM
                refine lv_iload hx hb dX9_longest_76 (lv_at hl 6 rfl) ?_
                refine lv_goto (tgt := 82) hx hb dX9_longest_78 (by decide) ?_
                exact K82 x5_30 _ _ _ hM hP hD hS (lv_sub hl [1, 2, 3, 5, 6, 0] rfl)
      obtain ⟨e3_30, e4_30, v_leastTime_e30, v_mostTime_e30, hL30, hM⟩ := ob4_some hM
      refine L30 N (-1 : Int32) (-1 : Int32) (0 : Int32) v_leastTime v_mostTime e3_30 e4_30 v_leastTime_e30 v_mostTime_e30 _ _ _ hL30 hP hD hS (lv_sub hl [3, 4, 5, 2, 1, 0] rfl) ?_
      intro H locs ls hP hD hS hl
      refine lv_iload_n hx hb dX9_longest_105 rfl (lv_at hl 0 rfl) ?_
      refine lv_if_ne (tgt := 113) hx hb dX9_longest_106 (by decide) (fun c106 => ?_) (fun c106 => ?_)
      · have hM := g_neg c106 hM
        refine lv_iload hx hb dX9_longest_113 (lv_at hl 2 rfl) ?_
        obtain ⟨rfl, rfl, rfl⟩ := si3 hM
        exact hret _ _ _ _ _ dX9_longest_115 rfl rfl hP hD hS
      · have hM := g_pos c106 hM
        refine lv_iload_n hx hb dX9_longest_109 rfl (lv_at hl 1 rfl) ?_
        refine lv_goto (tgt := 115) hx hb dX9_longest_110 (by decide) ?_
        obtain ⟨rfl, rfl, rfl⟩ := si3 hM
        exact hret _ _ _ _ _ dX9_longest_115 rfl rfl hP hD hS
    · have hM := g_pos c16 hM
      refine lv_ldc (v := -1000000002) hx hb hown k99 dX9_longest_19 ?_
      obtain ⟨rfl, rfl, rfl⟩ := si3 hM
      exact hret _ _ _ _ _ dX9_longest_21 rfl rfl hP hD hS

-- ===== X9_ageAt ageAt (II)I =====
abbrev r9_ageAt : Room := { frames := 1, cells := 0, slots := 0, locals := 21 }
def f9_ageAt (N : Nat) (p1 : Int32) (p2 : Int32) (v_now : Nat → Int32) : Option Int32 :=
  ob1 (f9_isDown N p1 v_now) fun r2 => if r2 = (0 : Int32) then (gi (0 : Int32) 60 (gi ((1 : Int32) + p1) 60 (some (((v_now ((1 : Int32) + p1).toNatClampNeg) + p2) - (v_now (0 : Int32).toNatClampNeg))))) else (gi ((13 : Int32) + p1) 60 (gi ((1 : Int32) + p1) 60 (some (((v_now ((1 : Int32) + p1).toNatClampNeg) + p2) - (v_now ((13 : Int32) + p1).toNatClampNeg)))))
set_option maxHeartbeats 4000000 in
set_option maxRecDepth 100000 in
theorem c9_ageAt (l : Launch) (D : va_G) (cy : Nat → ClassId) (N : Nat) (h0 h0_now : Nat) (oh0_0 oh0_1 oh0_2 oh0_3 oh0_4 oh0_5 oh0_6 oh0_7 oh0_8 oh0_9 oh0_10 oh0_11 oh0_12 oh0_13 oh0_14 oh0_15 oh0_16 oh0_17 oh0_18 oh0_19 oh0_20 oh0_21 oh0_23 oh0_24 oh0_25 oh0_26 oh0_27 oh0_28 oh0_29 oh0_30 oh0_31 oh0_32 oh0_33 oh0_34 oh0_35 oh0_36 oh0_37 : Value) (p1 : Int32) (p2 : Int32) (v_now : Nat → Int32) (r : Int32) (hM : f9_ageAt N p1 p2 v_now = some r) (sz : Nat) : CTi l yX9_ageAt wsX9_ageAt r9_ageAt [.ref h0, .int p1, .int p2] D cy sz [(h0, .inr (9, [oh0_0, oh0_1, oh0_2, oh0_3, oh0_4, oh0_5, oh0_6, oh0_7, oh0_8, oh0_9, oh0_10, oh0_11, oh0_12, oh0_13, oh0_14, oh0_15, oh0_16, oh0_17, oh0_18, oh0_19, oh0_20, oh0_21, .ref h0_now, oh0_23, oh0_24, oh0_25, oh0_26, oh0_27, oh0_28, oh0_29, oh0_30, oh0_31, oh0_32, oh0_33, oh0_34, oh0_35, oh0_36, oh0_37])), (h0_now, .inl (cy 2, 60, .inl v_now))] [(h0, .inr (9, [oh0_0, oh0_1, oh0_2, oh0_3, oh0_4, oh0_5, oh0_6, oh0_7, oh0_8, oh0_9, oh0_10, oh0_11, oh0_12, oh0_13, oh0_14, oh0_15, oh0_16, oh0_17, oh0_18, oh0_19, oh0_20, oh0_21, .ref h0_now, oh0_23, oh0_24, oh0_25, oh0_26, oh0_27, oh0_28, oh0_29, oh0_30, oh0_31, oh0_32, oh0_33, oh0_34, oh0_35, oh0_36, oh0_37])), (h0_now, .inl (cy 2, 60, .inl v_now))] r := by
  unfold f9_ageAt at hM
  refine ct_oi (cc := cX9_ageAt) (maxL := 4) (ty := .int) (by decide +kernel) rfl (Nat.le_of_ble_eq_true rfl) (lv0 := [(0, .ref h0), (1, .int p1), (2, .int p2)]) rfl ?_
  intro p e s m args below meth c A Q ls hx hb hts hown hml hK hP hD hS hA hret hl
  have hown : s.vm.findClass RX9 = some m.cls := hown
  have k50 := hts (.fieldLink RX9 50 "CaveYearsModel" "now" "[I") (List.mem_of_getElem? (i := 1) (by decide +kernel))
  have iX9 := (fun w h => (List.mem_cons_of_mem _ (List.mem_append_right _ h)) : ∀ w ∈ wsX90, w ∈ wsX9_ageAt)
  refine lv_aload_n hx hb dX9_ageAt_0 rfl (lv_at hl 0 rfl) ?_
  refine lv_iload_n hx hb dX9_ageAt_1 rfl (lv_at hl 1 rfl) ?_
  obtain ⟨r2, hc2, hM⟩ := ob1_some hM
  refine cl_vi (As := [.int p1]) (rest := []) (ci := 9) (q0 := 0) (wr := []) (ws2 := [(h0, .inr (9, [oh0_0, oh0_1, oh0_2, oh0_3, oh0_4, oh0_5, oh0_6, oh0_7, oh0_8, oh0_9, oh0_10, oh0_11, oh0_12, oh0_13, oh0_14, oh0_15, oh0_16, oh0_17, oh0_18, oh0_19, oh0_20, oh0_21, .ref h0_now, oh0_23, oh0_24, oh0_25, oh0_26, oh0_27, oh0_28, oh0_29, oh0_30, oh0_31, oh0_32, oh0_33, oh0_34, oh0_35, oh0_36, oh0_37])), (h0_now, .inl (cy 2, 60, .inl v_now))]) (isC := [0, 1]) (isR := []) (pm := [0, 1]) hx hb hml hown hts (c9_isDown l D cy N h0 h0_now oh0_0 oh0_1 oh0_2 oh0_3 oh0_4 oh0_5 oh0_6 oh0_7 oh0_8 oh0_9 oh0_10 oh0_11 oh0_12 oh0_13 oh0_14 oh0_15 oh0_16 oh0_17 oh0_18 oh0_19 oh0_20 oh0_21 oh0_23 oh0_24 oh0_25 oh0_26 oh0_27 oh0_28 oh0_29 oh0_30 oh0_31 oh0_32 oh0_33 oh0_34 oh0_35 oh0_36 oh0_37 p1 v_now r2 hc2) (cwV 1 hts gX9_ageAt_X9_isDown rfl rfl rfl (by decide +kernel) ⟨Nat.le_of_ble_eq_true rfl, Nat.le_of_ble_eq_true rfl⟩) hK hP hD hS hA rfl rfl rfl rfl rfl (by decide) rfl rfl rfl hl.1 (Nat.le_of_ble_eq_true rfl) dX9_ageAt_2 ⟨Nat.zero_le _, Nat.zero_le _⟩ rfl rfl (fun H locs hP hD hS => ?_)
  refine lv_if_eq (tgt := 20) hx hb dX9_ageAt_5 (by decide) (fun c5 => ?_) (fun c5 => ?_)
  · have hM := g_pos c5 hM
    refine lv_aload_n hx hb dX9_ageAt_20 rfl (lv_at hl 0 rfl) ?_
    refine va_get (D := D) (ci := 9) (v := .ref h0_now) (C := RX9) (T := TX9) (N := 38) hx hb hts iX9 hown hK hP 0 rfl rfl 22 (by decide) k50 (fun _ h9 => h9) rfl dX9_ageAt_21 ?_
    refine lv_iconst (v := 0) hx hb dX9_ageAt_24 (by decide) ?_
    obtain ⟨h25, hM⟩ := gi_some hM
    refine va_iald hx hb hK hP 1 2 rfl rfl h25 dX9_ageAt_25 ?_
    refine lv_istore_n (lv' := [(3, .int (v_now (0 : Int32).toNatClampNeg)), (0, .ref h0), (1, .int p1), (2, .int p2)]) hx hb dX9_ageAt_26 rfl hl (by decide) rfl (fun ls hl => ?_)
    refine lv_aload_n hx hb dX9_ageAt_27 rfl (lv_at hl 1 rfl) ?_
    refine va_get (D := D) (ci := 9) (v := .ref h0_now) (C := RX9) (T := TX9) (N := 38) hx hb hts iX9 hown hK hP 0 rfl rfl 22 (by decide) k50 (fun _ h9 => h9) rfl dX9_ageAt_28 ?_
    refine lv_iconst (v := 1) hx hb dX9_ageAt_31 (by decide) ?_
    refine lv_iload_n hx hb dX9_ageAt_32 rfl (lv_at hl 2 rfl) ?_
    refine lv_iadd hx hb dX9_ageAt_33 ?_
    obtain ⟨h34, hM⟩ := gi_some hM
    refine va_iald hx hb hK hP 1 2 rfl rfl h34 dX9_ageAt_34 ?_
    refine lv_iload_n hx hb dX9_ageAt_35 rfl (lv_at hl 3 rfl) ?_
    refine lv_iadd hx hb dX9_ageAt_36 ?_
    refine lv_iload_n hx hb dX9_ageAt_37 rfl (lv_at hl 0 rfl) ?_
    refine lv_isub hx hb dX9_ageAt_38 ?_
    obtain rfl := si1 hM
    exact hret _ _ _ _ _ dX9_ageAt_39 rfl rfl hP hD hS
  · have hM := g_neg c5 hM
    refine lv_aload_n hx hb dX9_ageAt_8 rfl (lv_at hl 0 rfl) ?_
    refine va_get (D := D) (ci := 9) (v := .ref h0_now) (C := RX9) (T := TX9) (N := 38) hx hb hts iX9 hown hK hP 0 rfl rfl 22 (by decide) k50 (fun _ h9 => h9) rfl dX9_ageAt_9 ?_
    refine lv_bipush (v := 13) hx hb dX9_ageAt_12 (by decide) ?_
    refine lv_iload_n hx hb dX9_ageAt_14 rfl (lv_at hl 1 rfl) ?_
    refine lv_iadd hx hb dX9_ageAt_15 ?_
    obtain ⟨h16, hM⟩ := gi_some hM
    refine va_iald hx hb hK hP 1 2 rfl rfl h16 dX9_ageAt_16 ?_
    refine lv_goto (tgt := 26) hx hb dX9_ageAt_17 (by decide) ?_
    refine lv_istore_n (lv' := [(3, .int (v_now ((13 : Int32) + p1).toNatClampNeg)), (0, .ref h0), (1, .int p1), (2, .int p2)]) hx hb dX9_ageAt_26 rfl hl (by decide) rfl (fun ls hl => ?_)
    refine lv_aload_n hx hb dX9_ageAt_27 rfl (lv_at hl 1 rfl) ?_
    refine va_get (D := D) (ci := 9) (v := .ref h0_now) (C := RX9) (T := TX9) (N := 38) hx hb hts iX9 hown hK hP 0 rfl rfl 22 (by decide) k50 (fun _ h9 => h9) rfl dX9_ageAt_28 ?_
    refine lv_iconst (v := 1) hx hb dX9_ageAt_31 (by decide) ?_
    refine lv_iload_n hx hb dX9_ageAt_32 rfl (lv_at hl 2 rfl) ?_
    refine lv_iadd hx hb dX9_ageAt_33 ?_
    obtain ⟨h34, hM⟩ := gi_some hM
    refine va_iald hx hb hK hP 1 2 rfl rfl h34 dX9_ageAt_34 ?_
    refine lv_iload_n hx hb dX9_ageAt_35 rfl (lv_at hl 3 rfl) ?_
    refine lv_iadd hx hb dX9_ageAt_36 ?_
    refine lv_iload_n hx hb dX9_ageAt_37 rfl (lv_at hl 0 rfl) ?_
    refine lv_isub hx hb dX9_ageAt_38 ?_
    obtain rfl := si1 hM
    exact hret _ _ _ _ _ dX9_ageAt_39 rfl rfl hP hD hS
