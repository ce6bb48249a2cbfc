-- ===== X9_sitOut sitOut (I)I =====
abbrev r9_sitOut : Room := { frames := 3, cells := 0, slots := 0, locals := 64 }
def f9_sitOut_L15 (N : Nat) (v_winters : Nat → Int32) (v_winterFrom : Nat → Int32) (v_winterLong : Nat → Int32) (v_now : Nat → Int32) : Nat → Int32 → Int32 → Option Int32
  | 0, _, _ => none
  | n + 1, x2_15, x3_15 => gi (0 : Int32) 2 (if (v_winters (0 : Int32).toNatClampNeg) ≤ x3_15 then (some x2_15) else (gi x3_15 10 (gi x3_15 10 (gi x3_15 10 (gi (0 : Int32) 60 (if ((60 : Int32) * (v_winterFrom x3_15.toNatClampNeg)) < (v_now (0 : Int32).toNatClampNeg) then ((f9_sitOut_L15 N v_winters v_winterFrom v_winterLong v_now n) x2_15 (x3_15 + (1 : Int32))) else (if ((60 : Int32) * ((v_winterFrom x3_15.toNatClampNeg) + (v_winterLong x3_15.toNatClampNeg))) ≤ x2_15 then ((f9_sitOut_L15 N v_winters v_winterFrom v_winterLong v_now n) x2_15 (x3_15 + (1 : Int32))) else ((f9_sitOut_L15 N v_winters v_winterFrom v_winterLong v_now n) ((60 : Int32) * ((v_winterFrom x3_15.toNatClampNeg) + (v_winterLong x3_15.toNatClampNeg))) (x3_15 + (1 : Int32))))))))))
def f9_sitOut_L94 (N : Nat) (p1 : Int32) (v_now : Nat → Int32) (e2_15 : Int32) (v_leastTime_89 : Nat → Int32) (v_mostTime_89 : Nat → Int32) : Nat → Int32 → Option (Int32 × (Nat → Int32) × (Nat → Int32))
  | 0, _ => none
  | n + 1, x3_94 => if (40 : Int32) < x3_94 then (some ((-1 : Int32), v_leastTime_89, v_mostTime_89)) else (ob1 (f9_index N x3_94 p1) fun r106 => gi r106 287 (gi (0 : Int32) 60 (if (v_mostTime_89 r106.toNatClampNeg) < (e2_15 - (v_now (0 : Int32).toNatClampNeg)) then ((f9_sitOut_L94 N p1 v_now e2_15 v_leastTime_89 v_mostTime_89 n) (x3_94 + (1 : Int32))) else (some (x3_94, v_leastTime_89, v_mostTime_89)))))
def f9_sitOut (N : Nat) (p1 : Int32) (v_parts : Nat → Int32) (v_rates : Nat → Int32) (v_ways : Nat → Int32) (v_mouths : Nat → Int32) (v_winters : Nat → Int32) (v_winterFrom : Nat → Int32) (v_winterLong : Nat → Int32) (v_now : Nat → Int32) (v_leastTime : Nat → Int32) (v_mostTime : Nat → Int32) : Option (Int32 × (Nat → Int32) × (Nat → Int32)) :=
  ob1 (f9_isMouth N p1 v_parts v_mouths) fun r2 => if r2 = (0 : Int32) then (some ((-1000000001 : Int32), v_leastTime, v_mostTime)) else (ob1 (f9_sitOut_L15 N v_winters v_winterFrom v_winterLong v_now N (-1 : Int32) (0 : Int32)) fun e2_15 => if e2_15 = (-1 : Int32) then (some ((0 : Int32), v_leastTime, v_mostTime)) else (ob2 (f9_findSpans N p1 v_parts v_rates v_ways v_leastTime v_mostTime) fun v_leastTime_89 v_mostTime_89 => f9_sitOut_L94 N p1 v_now e2_15 v_leastTime_89 v_mostTime_89 N (1 : Int32)))
set_option maxHeartbeats 4000000 in
set_option maxRecDepth 100000 in
theorem c9_sitOut (l : Launch) (D : va_G) (cy : Nat → ClassId) (N : Nat) (h0 h0_parts h0_rates h0_ways h0_mouths h0_winters h0_winterFrom h0_winterLong h0_now h0_leastTime h0_mostTime : Nat) (oh0_0 oh0_1 oh0_2 oh0_6 oh0_8 oh0_9 oh0_10 oh0_11 oh0_15 oh0_16 oh0_17 oh0_18 oh0_19 oh0_20 oh0_21 oh0_23 oh0_24 oh0_25 oh0_28 oh0_29 oh0_30 oh0_31 oh0_32 oh0_33 oh0_34 oh0_35 oh0_36 oh0_37 : Value) (p1 : Int32) (v_parts : Nat → Int32) (v_rates : Nat → Int32) (v_ways : Nat → Int32) (v_mouths : Nat → Int32) (v_winters : Nat → Int32) (v_winterFrom : Nat → Int32) (v_winterLong : Nat → Int32) (v_now : Nat → Int32) (v_leastTime : Nat → Int32) (v_mostTime : Nat → Int32) (r : Int32) (nv_leastTime : Nat → Int32) (nv_mostTime : Nat → Int32) (hM : f9_sitOut N p1 v_parts v_rates v_ways v_mouths v_winters v_winterFrom v_winterLong v_now v_leastTime v_mostTime = some (r, nv_leastTime, nv_mostTime)) (sz : Nat) : CTi l yX9_sitOut wsX9_sitOut r9_sitOut [.ref h0, .int p1] D cy sz [(h0, .inr (9, [oh0_0, oh0_1, oh0_2, .ref h0_parts, .ref h0_rates, .ref h0_ways, oh0_6, .ref h0_mouths, oh0_8, oh0_9, oh0_10, oh0_11, .ref h0_winters, .ref h0_winterFrom, .ref h0_winterLong, oh0_15, oh0_16, oh0_17, oh0_18, oh0_19, oh0_20, oh0_21, .ref h0_now, oh0_23, oh0_24, oh0_25, .ref h0_leastTime, .ref h0_mostTime, oh0_28, oh0_29, oh0_30, oh0_31, oh0_32, oh0_33, oh0_34, oh0_35, oh0_36, oh0_37])), (h0_parts, .inl (cy 2, 2, .inl v_parts)), (h0_rates, .inl (cy 2, 14, .inl v_rates)), (h0_ways, .inl (cy 2, 14, .inl v_ways)), (h0_mouths, .inl (cy 2, 2, .inl v_mouths)), (h0_winters, .inl (cy 2, 2, .inl v_winters)), (h0_winterFrom, .inl (cy 2, 10, .inl v_winterFrom)), (h0_winterLong, .inl (cy 2, 10, .inl v_winterLong)), (h0_now, .inl (cy 2, 60, .inl v_now)), (h0_leastTime, .inl (cy 2, 287, .inl v_leastTime)), (h0_mostTime, .inl (cy 2, 287, .inl v_mostTime))] [(h0, .inr (9, [oh0_0, oh0_1, oh0_2, .ref h0_parts, .ref h0_rates, .ref h0_ways, oh0_6, .ref h0_mouths, oh0_8, oh0_9, oh0_10, oh0_11, .ref h0_winters, .ref h0_winterFrom, .ref h0_winterLong, oh0_15, oh0_16, oh0_17, oh0_18, oh0_19, oh0_20, oh0_21, .ref h0_now, oh0_23, oh0_24, oh0_25, .ref h0_leastTime, .ref h0_mostTime, oh0_28, oh0_29, oh0_30, oh0_31, oh0_32, oh0_33, oh0_34, oh0_35, oh0_36, oh0_37])), (h0_parts, .inl (cy 2, 2, .inl v_parts)), (h0_rates, .inl (cy 2, 14, .inl v_rates)), (h0_ways, .inl (cy 2, 14, .inl v_ways)), (h0_mouths, .inl (cy 2, 2, .inl v_mouths)), (h0_winters, .inl (cy 2, 2, .inl v_winters)), (h0_winterFrom, .inl (cy 2, 10, .inl v_winterFrom)), (h0_winterLong, .inl (cy 2, 10, .inl v_winterLong)), (h0_now, .inl (cy 2, 60, .inl v_now)), (h0_leastTime, .inl (cy 2, 287, .inl nv_leastTime)), (h0_mostTime, .inl (cy 2, 287, .inl nv_mostTime))] r := by
  unfold f9_sitOut at hM
  refine ct_oi (cc := cX9_sitOut) (maxL := 5) (ty := .int) (by decide +kernel) rfl (Nat.le_of_ble_eq_true rfl) (lv0 := [(0, .ref h0), (1, .int p1)]) rfl ?_
  intro p e s m args below meth c A Q ls hx hb hts hown hml hK hP hD hS hA hret hl
  have hown : s.vm.findClass RX9 = some m.cls := hown
  have k41 := hts (.fieldLink RX9 41 "CaveYearsModel" "winters" "[I") (List.mem_of_getElem? (i := 2) (by decide +kernel))
  have iX9 := (fun w h => (List.mem_cons_of_mem _ (List.mem_append_right _ h)) : ∀ w ∈ wsX90, w ∈ wsX9_sitOut)
  have k44 := hts (.fieldLink RX9 44 "CaveYearsModel" "winterFrom" "[I") (List.mem_of_getElem? (i := 3) (by decide +kernel))
  have k47 := hts (.fieldLink RX9 47 "CaveYearsModel" "winterLong" "[I") (List.mem_of_getElem? (i := 4) (by decide +kernel))
  have k50 := hts (.fieldLink RX9 50 "CaveYearsModel" "now" "[I") (List.mem_of_getElem? (i := 5) (by decide +kernel))
  have k63 := hts (.fieldLink RX9 63 "CaveYearsModel" "mostTime" "[I") (List.mem_of_getElem? (i := 6) (by decide +kernel))
  have k180 := hts (.constant RX9 180 (-1000000001)) (List.mem_of_getElem? (i := 1) (by decide +kernel))
  refine lv_aload_n hx hb dX9_sitOut_0 rfl (lv_at hl 0 rfl) ?_
  refine lv_iload_n hx hb dX9_sitOut_1 rfl (lv_at hl 1 rfl) ?_
  obtain ⟨r2, hc2, hM⟩ := ob1_some hM
  refine cl_vi (As := [.int p1]) (rest := []) (ci := 9) (q0 := 0) (wr := [(h0_rates, .inl (cy 2, 14, .inl v_rates)), (h0_ways, .inl (cy 2, 14, .inl v_ways)), (h0_winters, .inl (cy 2, 2, .inl v_winters)), (h0_winterFrom, .inl (cy 2, 10, .inl v_winterFrom)), (h0_winterLong, .inl (cy 2, 10, .inl v_winterLong)), (h0_now, .inl (cy 2, 60, .inl v_now)), (h0_leastTime, .inl (cy 2, 287, .inl v_leastTime)), (h0_mostTime, .inl (cy 2, 287, .inl v_mostTime))]) (ws2 := [(h0, .inr (9, [oh0_0, oh0_1, oh0_2, .ref h0_parts, .ref h0_rates, .ref h0_ways, oh0_6, .ref h0_mouths, oh0_8, oh0_9, oh0_10, oh0_11, .ref h0_winters, .ref h0_winterFrom, .ref h0_winterLong, oh0_15, oh0_16, oh0_17, oh0_18, oh0_19, oh0_20, oh0_21, .ref h0_now, oh0_23, oh0_24, oh0_25, .ref h0_leastTime, .ref h0_mostTime, oh0_28, oh0_29, oh0_30, oh0_31, oh0_32, oh0_33, oh0_34, oh0_35, oh0_36, oh0_37])), (h0_parts, .inl (cy 2, 2, .inl v_parts)), (h0_rates, .inl (cy 2, 14, .inl v_rates)), (h0_ways, .inl (cy 2, 14, .inl v_ways)), (h0_mouths, .inl (cy 2, 2, .inl v_mouths)), (h0_winters, .inl (cy 2, 2, .inl v_winters)), (h0_winterFrom, .inl (cy 2, 10, .inl v_winterFrom)), (h0_winterLong, .inl (cy 2, 10, .inl v_winterLong)), (h0_now, .inl (cy 2, 60, .inl v_now)), (h0_leastTime, .inl (cy 2, 287, .inl v_leastTime)), (h0_mostTime, .inl (cy 2, 287, .inl v_mostTime))]) (isC := [0, 1, 4]) (isR := [2, 3, 5, 6, 7, 8, 9, 10]) (pm := [8, 9, 0, 1, 10, 2, 3, 4, 5, 6, 7]) hx hb hml hown hts (c9_isMouth l D cy N h0 h0_parts h0_mouths oh0_0 oh0_1 oh0_2 (.ref h0_rates) (.ref h0_ways) oh0_6 oh0_8 oh0_9 oh0_10 oh0_11 (.ref h0_winters) (.ref h0_winterFrom) (.ref h0_winterLong) oh0_15 oh0_16 oh0_17 oh0_18 oh0_19 oh0_20 oh0_21 (.ref h0_now) oh0_23 oh0_24 oh0_25 (.ref h0_leastTime) (.ref h0_mostTime) oh0_28 oh0_29 oh0_30 oh0_31 oh0_32 oh0_33 oh0_34 oh0_35 oh0_36 oh0_37 p1 v_parts v_mouths r2 hc2) (cwV 1 hts gX9_sitOut_X9_isMouth rfl rfl rfl (by decide +kernel) ⟨Nat.le_of_ble_eq_true rfl, Nat.le_of_ble_eq_true rfl⟩) hK hP hD hS hA rfl rfl rfl rfl rfl (by decide) rfl rfl rfl hl.1 (Nat.le_of_ble_eq_true rfl) dX9_sitOut_2 ⟨Nat.zero_le _, Nat.zero_le _⟩ rfl rfl (fun H locs hP hD hS => ?_)
  refine lv_if_ne (tgt := 11) hx hb dX9_sitOut_5 (by decide) (fun c5 => ?_) (fun c5 => ?_)
  · have hM := g_neg c5 hM
    refine lv_iconst (v := -1) hx hb dX9_sitOut_11 (by decide) ?_
    refine lv_istore_n (lv' := [(2, .int (-1 : Int32)), (0, .ref h0), (1, .int p1)]) hx hb dX9_sitOut_12 rfl hl (by decide) rfl (fun ls hl => ?_)
    refine lv_iconst (v := 0) hx hb dX9_sitOut_13 (by decide) ?_
    refine lv_istore_n (lv' := [(3, .int (0 : Int32)), (2, .int (-1 : Int32)), (0, .ref h0), (1, .int p1)]) hx hb dX9_sitOut_14 rfl hl (by decide) rfl (fun ls hl => ?_)
    have L15 : ∀ (n : Nat) (x2_15 : Int32) (x3_15 : Int32) (e2_15 : Int32) (H : Heap) (locs : List Loc) (ls : Array Slot), f9_sitOut_L15 N v_winters v_winterFrom v_winterLong v_now n x2_15 x3_15 = some e2_15 → va_P D vwCl [(h0, .inr (9, [oh0_0, oh0_1, oh0_2, .ref h0_parts, .ref h0_rates, .ref h0_ways, oh0_6, .ref h0_mouths, oh0_8, oh0_9, oh0_10, oh0_11, .ref h0_winters, .ref h0_winterFrom, .ref h0_winterLong, oh0_15, oh0_16, oh0_17, oh0_18, oh0_19, oh0_20, oh0_21, .ref h0_now, oh0_23, oh0_24, oh0_25, .ref h0_leastTime, .ref h0_mostTime, oh0_28, oh0_29, oh0_30, oh0_31, oh0_32, oh0_33, oh0_34, oh0_35, oh0_36, oh0_37])), (h0_parts, .inl (cy 2, 2, .inl v_parts)), (h0_rates, .inl (cy 2, 14, .inl v_rates)), (h0_ways, .inl (cy 2, 14, .inl v_ways)), (h0_mouths, .inl (cy 2, 2, .inl v_mouths)), (h0_winters, .inl (cy 2, 2, .inl v_winters)), (h0_winterFrom, .inl (cy 2, 10, .inl v_winterFrom)), (h0_winterLong, .inl (cy 2, 10, .inl v_winterLong)), (h0_now, .inl (cy 2, 60, .inl v_now)), (h0_leastTime, .inl (cy 2, 287, .inl v_leastTime)), (h0_mostTime, .inl (cy 2, 287, .inl v_mostTime))] H → va_D A [(h0, .inr (9, [oh0_0, oh0_1, oh0_2, .ref h0_parts, .ref h0_rates, .ref h0_ways, oh0_6, .ref h0_mouths, oh0_8, oh0_9, oh0_10, oh0_11, .ref h0_winters, .ref h0_winterFrom, .ref h0_winterLong, oh0_15, oh0_16, oh0_17, oh0_18, oh0_19, oh0_20, oh0_21, .ref h0_now, oh0_23, oh0_24, oh0_25, .ref h0_leastTime, .ref h0_mostTime, oh0_28, oh0_29, oh0_30, oh0_31, oh0_32, oh0_33, oh0_34, oh0_35, oh0_36, oh0_37])), (h0_parts, .inl (cy 2, 2, .inl v_parts)), (h0_rates, .inl (cy 2, 14, .inl v_rates)), (h0_ways, .inl (cy 2, 14, .inl v_ways)), (h0_mouths, .inl (cy 2, 2, .inl v_mouths)), (h0_winters, .inl (cy 2, 2, .inl v_winters)), (h0_winterFrom, .inl (cy 2, 10, .inl v_winterFrom)), (h0_winterLong, .inl (cy 2, 10, .inl v_winterLong)), (h0_now, .inl (cy 2, 60, .inl v_now)), (h0_leastTime, .inl (cy 2, 287, .inl v_leastTime)), (h0_mostTime, .inl (cy 2, 287, .inl v_mostTime))] → va_S A s.heap H locs → lv_has ls 5 [(0, .ref h0), (1, .int p1), (2, .int x2_15), (3, .int x3_15)] → (∀ (H : Heap) (locs : List Loc) (ls : Array Slot), va_P D vwCl [(h0, .inr (9, [oh0_0, oh0_1, oh0_2, .ref h0_parts, .ref h0_rates, .ref h0_ways, oh0_6, .ref h0_mouths, oh0_8, oh0_9, oh0_10, oh0_11, .ref h0_winters, .ref h0_winterFrom, .ref h0_winterLong, oh0_15, oh0_16, oh0_17, oh0_18, oh0_19, oh0_20, oh0_21, .ref h0_now, oh0_23, oh0_24, oh0_25, .ref h0_leastTime, .ref h0_mostTime, oh0_28, oh0_29, oh0_30, oh0_31, oh0_32, oh0_33, oh0_34, oh0_35, oh0_36, oh0_37])), (h0_parts, .inl (cy 2, 2, .inl v_parts)), (h0_rates, .inl (cy 2, 14, .inl v_rates)), (h0_ways, .inl (cy 2, 14, .inl v_ways)), (h0_mouths, .inl (cy 2, 2, .inl v_mouths)), (h0_winters, .inl (cy 2, 2, .inl v_winters)), (h0_winterFrom, .inl (cy 2, 10, .inl v_winterFrom)), (h0_winterLong, .inl (cy 2, 10, .inl v_winterLong)), (h0_now, .inl (cy 2, 60, .inl v_now)), (h0_leastTime, .inl (cy 2, 287, .inl v_leastTime)), (h0_mostTime, .inl (cy 2, 287, .inl v_mostTime))] H → va_D A [(h0, .inr (9, [oh0_0, oh0_1, oh0_2, .ref h0_parts, .ref h0_rates, .ref h0_ways, oh0_6, .ref h0_mouths, oh0_8, oh0_9, oh0_10, oh0_11, .ref h0_winters, .ref h0_winterFrom, .ref h0_winterLong, oh0_15, oh0_16, oh0_17, oh0_18, oh0_19, oh0_20, oh0_21, .ref h0_now, oh0_23, oh0_24, oh0_25, .ref h0_leastTime, .ref h0_mostTime, oh0_28, oh0_29, oh0_30, oh0_31, oh0_32, oh0_33, oh0_34, oh0_35, oh0_36, oh0_37])), (h0_parts, .inl (cy 2, 2, .inl v_parts)), (h0_rates, .inl (cy 2, 14, .inl v_rates)), (h0_ways, .inl (cy 2, 14, .inl v_ways)), (h0_mouths, .inl (cy 2, 2, .inl v_mouths)), (h0_winters, .inl (cy 2, 2, .inl v_winters)), (h0_winterFrom, .inl (cy 2, 10, .inl v_winterFrom)), (h0_winterLong, .inl (cy 2, 10, .inl v_winterLong)), (h0_now, .inl (cy 2, 60, .inl v_now)), (h0_leastTime, .inl (cy 2, 287, .inl v_leastTime)), (h0_mostTime, .inl (cy 2, 287, .inl v_mostTime))] → va_S A s.heap H locs → lv_has ls 5 [(0, .ref h0), (1, .int p1), (2, .int e2_15)] → W p l e r9_sitOut s m args below meth c H locs 0 0 Q (F0 m 80 ls [])) → W p l e r9_sitOut s m args below meth c H locs 0 0 Q (F0 m 15 ls []) := by
      intro n15
      induction n15 with
      | zero =>
        intro x2_15 x3_15 e2_15 H locs ls hM
        exact absurd hM (by simp [f9_sitOut_L15])
      | succ n15 ih15 =>
        intro x2_15 x3_15 e2_15 H locs ls hM hP hD hS hl K
        rw [f9_sitOut_L15] at hM
        refine lv_iload_n hx hb dX9_sitOut_15 rfl (lv_at hl 3 rfl) ?_
        refine lv_aload_n hx hb dX9_sitOut_16 rfl (lv_at hl 0 rfl) ?_
        refine va_get (D := D) (ci := 9) (v := .ref h0_winters) (C := RX9) (T := TX9) (N := 38) hx hb hts iX9 hown hK hP 0 rfl rfl 12 (by decide) k41 (fun _ h9 => h9) rfl dX9_sitOut_17 ?_
        refine lv_iconst (v := 0) hx hb dX9_sitOut_20 (by decide) ?_
        obtain ⟨h21, hM⟩ := gi_some hM
        refine va_iald hx hb hK hP 5 2 rfl rfl h21 dX9_sitOut_21 ?_
        refine lv_icmp_ge (tgt := 80) hx hb dX9_sitOut_22 (by decide) (fun c22 => ?_) (fun c22 => ?_)
        · have hM := g_pos c22 hM
          obtain rfl := si1 hM
          exact K _ _ _ hP hD hS (lv_sub hl [0, 1, 2] rfl)
        · have hM := g_neg c22 hM
          refine lv_bipush (v := 60) hx hb dX9_sitOut_25 (by decide) ?_
          refine lv_aload_n hx hb dX9_sitOut_27 rfl (lv_at hl 0 rfl) ?_
          refine va_get (D := D) (ci := 9) (v := .ref h0_winterFrom) (C := RX9) (T := TX9) (N := 38) hx hb hts iX9 hown hK hP 0 rfl rfl 13 (by decide) k44 (fun _ h9 => h9) rfl dX9_sitOut_28 ?_
          refine lv_iload_n hx hb dX9_sitOut_31 rfl (lv_at hl 3 rfl) ?_
          obtain ⟨h32, hM⟩ := gi_some hM
          refine va_iald hx hb hK hP 6 2 rfl rfl h32 dX9_sitOut_32 ?_
          refine lv_aload_n hx hb dX9_sitOut_33 rfl (lv_at hl 0 rfl) ?_
          refine va_get (D := D) (ci := 9) (v := .ref h0_winterLong) (C := RX9) (T := TX9) (N := 38) hx hb hts iX9 hown hK hP 0 rfl rfl 14 (by decide) k47 (fun _ h9 => h9) rfl dX9_sitOut_34 ?_
          refine lv_iload_n hx hb dX9_sitOut_37 rfl (lv_at hl 3 rfl) ?_
          obtain ⟨h38, hM⟩ := gi_some hM
          refine va_iald hx hb hK hP 7 2 rfl rfl h38 dX9_sitOut_38 ?_
          refine lv_iadd hx hb dX9_sitOut_39 ?_
          refine lv_imul hx hb dX9_sitOut_40 ?_
          refine lv_istore (lv' := [(4, .int ((60 : Int32) * ((v_winterFrom x3_15.toNatClampNeg) + (v_winterLong x3_15.toNatClampNeg)))), (0, .ref h0), (1, .int p1), (2, .int x2_15), (3, .int x3_15)]) hx hb dX9_sitOut_41 hl (by decide) rfl (fun ls hl => ?_)
          refine lv_bipush (v := 60) hx hb dX9_sitOut_43 (by decide) ?_
          refine lv_aload_n hx hb dX9_sitOut_45 rfl (lv_at hl 1 rfl) ?_
          refine va_get (D := D) (ci := 9) (v := .ref h0_winterFrom) (C := RX9) (T := TX9) (N := 38) hx hb hts iX9 hown hK hP 0 rfl rfl 13 (by decide) k44 (fun _ h9 => h9) rfl dX9_sitOut_46 ?_
          refine lv_iload_n hx hb dX9_sitOut_49 rfl (lv_at hl 4 rfl) ?_
          obtain ⟨h50, hM⟩ := gi_some hM
          refine va_iald hx hb hK hP 6 2 rfl rfl h50 dX9_sitOut_50 ?_
          refine lv_imul hx hb dX9_sitOut_51 ?_
          refine lv_aload_n hx hb dX9_sitOut_52 rfl (lv_at hl 1 rfl) ?_
          refine va_get (D := D) (ci := 9) (v := .ref h0_now) (C := RX9) (T := TX9) (N := 38) hx hb hts iX9 hown hK hP 0 rfl rfl 22 (by decide) k50 (fun _ h9 => h9) rfl dX9_sitOut_53 ?_
          refine lv_iconst (v := 0) hx hb dX9_sitOut_56 (by decide) ?_
          obtain ⟨h57, hM⟩ := gi_some hM
          refine va_iald hx hb hK hP 8 2 rfl rfl h57 dX9_sitOut_57 ?_
          refine lv_icmp_lt (tgt := 72) hx hb dX9_sitOut_58 (by decide) (fun c58 => ?_) (fun c58 => ?_)
          · have hM := g_pos c58 hM
            refine lv_iload_n hx hb dX9_sitOut_72 rfl (lv_at hl 3 rfl) ?_
            refine lv_istore_n (lv' := [(2, .int x2_15), (4, .int ((60 : Int32) * ((v_winterFrom x3_15.toNatClampNeg) + (v_winterLong x3_15.toNatClampNeg)))), (0, .ref h0), (1, .int p1), (3, .int x3_15)]) hx hb dX9_sitOut_73 rfl hl (by decide) rfl (fun ls hl => ?_)
            refine lv_iinc (v := x3_15 + (1 : Int32)) (lv' := [(3, .int (x3_15 + (1 : Int32))), (2, .int x2_15), (4, .int ((60 : Int32) * ((v_winterFrom x3_15.toNatClampNeg) + (v_winterLong x3_15.toNatClampNeg)))), (0, .ref h0), (1, .int p1)]) hx hb dX9_sitOut_74 hl (k := 4) rfl rfl (by decide) rfl (fun ls hl => ?_)
            refine lv_goto (tgt := 15) hx hb dX9_sitOut_77 (by decide) ?_
            exact ih15 x2_15 (x3_15 + (1 : Int32)) e2_15 _ _ _ hM hP hD hS (lv_sub hl [3, 4, 1, 0] rfl) K
          · have hM := g_neg c58 hM
            refine lv_iload hx hb dX9_sitOut_61 (lv_at hl 0 rfl) ?_
            refine lv_iload_n hx hb dX9_sitOut_63 rfl (lv_at hl 3 rfl) ?_
            refine lv_icmp_le (tgt := 72) hx hb dX9_sitOut_64 (by decide) (fun c64 => ?_) (fun c64 => ?_)
            · have hM := g_pos c64 hM
              refine lv_iload_n hx hb dX9_sitOut_72 rfl (lv_at hl 3 rfl) ?_
              refine lv_istore_n (lv' := [(2, .int x2_15), (4, .int ((60 : Int32) * ((v_winterFrom x3_15.toNatClampNeg) + (v_winterLong x3_15.toNatClampNeg)))), (0, .ref h0), (1, .int p1), (3, .int x3_15)]) hx hb dX9_sitOut_73 rfl hl (by decide) rfl (fun ls hl => ?_)
              refine lv_iinc (v := x3_15 + (1 : Int32)) (lv' := [(3, .int (x3_15 + (1 : Int32))), (2, .int x2_15), (4, .int ((60 : Int32) * ((v_winterFrom x3_15.toNatClampNeg) + (v_winterLong x3_15.toNatClampNeg)))), (0, .ref h0), (1, .int p1)]) hx hb dX9_sitOut_74 hl (k := 4) rfl rfl (by decide) rfl (fun ls hl => ?_)
              refine lv_goto (tgt := 15) hx hb dX9_sitOut_77 (by decide) ?_
              exact ih15 x2_15 (x3_15 + (1 : Int32)) e2_15 _ _ _ hM hP hD hS (lv_sub hl [3, 4, 1, 0] rfl) K
            · have hM := g_neg c64 hM
              refine lv_iload hx hb dX9_sitOut_67 (lv_at hl 0 rfl) ?_
              refine lv_goto (tgt := 73) hx hb dX9_sitOut_69 (by decide) ?_
              refine lv_istore_n (lv' := [(2, .int ((60 : Int32) * ((v_winterFrom x3_15.toNatClampNeg) + (v_winterLong x3_15.toNatClampNeg)))), (4, .int ((60 : Int32) * ((v_winterFrom x3_15.toNatClampNeg) + (v_winterLong x3_15.toNatClampNeg)))), (0, .ref h0), (1, .int p1), (3, .int x3_15)]) hx hb dX9_sitOut_73 rfl hl (by decide) rfl (fun ls hl => ?_)
              refine lv_iinc (v := x3_15 + (1 : Int32)) (lv' := [(3, .int (x3_15 + (1 : Int32))), (2, .int ((60 : Int32) * ((v_winterFrom x3_15.toNatClampNeg) + (v_winterLong x3_15.toNatClampNeg)))), (4, .int ((60 : Int32) * ((v_winterFrom x3_15.toNatClampNeg) + (v_winterLong x3_15.toNatClampNeg)))), (0, .ref h0), (1, .int p1)]) hx hb dX9_sitOut_74 hl (k := 4) rfl rfl (by decide) rfl (fun ls hl => ?_)
              refine lv_goto (tgt := 15) hx hb dX9_sitOut_77 (by decide) ?_
              exact ih15 ((60 : Int32) * ((v_winterFrom x3_15.toNatClampNeg) + (v_winterLong x3_15.toNatClampNeg))) (x3_15 + (1 : Int32)) e2_15 _ _ _ hM hP hD hS (lv_sub hl [3, 4, 1, 0] rfl) K
    obtain ⟨e2_15, hL15, hM⟩ := ob1_some hM
    refine L15 N (-1 : Int32) (0 : Int32) e2_15 _ _ _ hL15 hP hD hS (lv_sub hl [2, 3, 1, 0] rfl) ?_
    intro H locs ls hP hD hS hl
    refine lv_iload_n hx hb dX9_sitOut_80 rfl (lv_at hl 2 rfl) ?_
    refine lv_iconst (v := -1) hx hb dX9_sitOut_81 (by decide) ?_
    refine lv_icmp_ne (tgt := 87) hx hb dX9_sitOut_82 (by decide) (fun c82 => ?_) (fun c82 => ?_)
    · have hM := g_neg c82 hM
      refine lv_aload_n hx hb dX9_sitOut_87 rfl (lv_at hl 0 rfl) ?_
      refine lv_iload_n hx hb dX9_sitOut_88 rfl (lv_at hl 1 rfl) ?_
      obtain ⟨v_leastTime_89, v_mostTime_89, hc89, hM⟩ := ob2_some hM
      refine cl_vv (As := [.int p1]) (rest := []) (ci := 9) (q0 := 0) (wr := [(h0_mouths, .inl (cy 2, 2, .inl v_mouths)), (h0_winters, .inl (cy 2, 2, .inl v_winters)), (h0_winterFrom, .inl (cy 2, 10, .inl v_winterFrom)), (h0_winterLong, .inl (cy 2, 10, .inl v_winterLong)), (h0_now, .inl (cy 2, 60, .inl v_now))]) (ws2 := [(h0, .inr (9, [oh0_0, oh0_1, oh0_2, .ref h0_parts, .ref h0_rates, .ref h0_ways, oh0_6, .ref h0_mouths, oh0_8, oh0_9, oh0_10, oh0_11, .ref h0_winters, .ref h0_winterFrom, .ref h0_winterLong, oh0_15, oh0_16, oh0_17, oh0_18, oh0_19, oh0_20, oh0_21, .ref h0_now, oh0_23, oh0_24, oh0_25, .ref h0_leastTime, .ref h0_mostTime, oh0_28, oh0_29, oh0_30, oh0_31, oh0_32, oh0_33, oh0_34, oh0_35, oh0_36, oh0_37])), (h0_parts, .inl (cy 2, 2, .inl v_parts)), (h0_rates, .inl (cy 2, 14, .inl v_rates)), (h0_ways, .inl (cy 2, 14, .inl v_ways)), (h0_mouths, .inl (cy 2, 2, .inl v_mouths)), (h0_winters, .inl (cy 2, 2, .inl v_winters)), (h0_winterFrom, .inl (cy 2, 10, .inl v_winterFrom)), (h0_winterLong, .inl (cy 2, 10, .inl v_winterLong)), (h0_now, .inl (cy 2, 60, .inl v_now)), (h0_leastTime, .inl (cy 2, 287, .inl v_leastTime_89)), (h0_mostTime, .inl (cy 2, 287, .inl v_mostTime_89))]) (isC := [0, 1, 2, 3, 9, 10]) (isR := [4, 5, 6, 7, 8]) (pm := [5, 6, 7, 8, 0, 1, 2, 3, 4, 9, 10]) hx hb hml hown hts (c9_findSpans l D cy N h0 h0_parts h0_rates h0_ways h0_leastTime h0_mostTime oh0_0 oh0_1 oh0_2 oh0_6 (.ref h0_mouths) oh0_8 oh0_9 oh0_10 oh0_11 (.ref h0_winters) (.ref h0_winterFrom) (.ref h0_winterLong) oh0_15 oh0_16 oh0_17 oh0_18 oh0_19 oh0_20 oh0_21 (.ref h0_now) oh0_23 oh0_24 oh0_25 oh0_28 oh0_29 oh0_30 oh0_31 oh0_32 oh0_33 oh0_34 oh0_35 oh0_36 oh0_37 p1 v_parts v_rates v_ways v_leastTime v_mostTime v_leastTime_89 v_mostTime_89 hc89) (cwV 1 hts gX9_sitOut_X9_findSpans rfl rfl rfl (by decide +kernel) ⟨Nat.le_of_ble_eq_true rfl, Nat.le_of_ble_eq_true rfl⟩) hK hP hD hS hA rfl rfl rfl rfl rfl (by decide) rfl rfl rfl hl.1 (Nat.le_of_ble_eq_true rfl) dX9_sitOut_89 ⟨Nat.zero_le _, Nat.zero_le _⟩ rfl rfl (fun H locs hP hD hS => ?_)
      refine lv_iconst (v := 1) hx hb dX9_sitOut_92 (by decide) ?_
      refine lv_istore_n (lv' := [(3, .int (1 : Int32)), (0, .ref h0), (1, .int p1), (2, .int e2_15)]) hx hb dX9_sitOut_93 rfl hl (by decide) rfl (fun ls hl => ?_)
      have L94 : ∀ (n : Nat) (x3_94 : Int32) (H : Heap) (locs : List Loc) (ls : Array Slot), f9_sitOut_L94 N p1 v_now e2_15 v_leastTime_89 v_mostTime_89 n x3_94 = some (r, nv_leastTime, nv_mostTime) → va_P D vwCl [(h0, .inr (9, [oh0_0, oh0_1, oh0_2, .ref h0_parts, .ref h0_rates, .ref h0_ways, oh0_6, .ref h0_mouths, oh0_8, oh0_9, oh0_10, oh0_11, .ref h0_winters, .ref h0_winterFrom, .ref h0_winterLong, oh0_15, oh0_16, oh0_17, oh0_18, oh0_19, oh0_20, oh0_21, .ref h0_now, oh0_23, oh0_24, oh0_25, .ref h0_leastTime, .ref h0_mostTime, oh0_28, oh0_29, oh0_30, oh0_31, oh0_32, oh0_33, oh0_34, oh0_35, oh0_36, oh0_37])), (h0_parts, .inl (cy 2, 2, .inl v_parts)), (h0_rates, .inl (cy 2, 14, .inl v_rates)), (h0_ways, .inl (cy 2, 14, .inl v_ways)), (h0_mouths, .inl (cy 2, 2, .inl v_mouths)), (h0_winters, .inl (cy 2, 2, .inl v_winters)), (h0_winterFrom, .inl (cy 2, 10, .inl v_winterFrom)), (h0_winterLong, .inl (cy 2, 10, .inl v_winterLong)), (h0_now, .inl (cy 2, 60, .inl v_now)), (h0_leastTime, .inl (cy 2, 287, .inl v_leastTime_89)), (h0_mostTime, .inl (cy 2, 287, .inl v_mostTime_89))] H → va_D A [(h0, .inr (9, [oh0_0, oh0_1, oh0_2, .ref h0_parts, .ref h0_rates, .ref h0_ways, oh0_6, .ref h0_mouths, oh0_8, oh0_9, oh0_10, oh0_11, .ref h0_winters, .ref h0_winterFrom, .ref h0_winterLong, oh0_15, oh0_16, oh0_17, oh0_18, oh0_19, oh0_20, oh0_21, .ref h0_now, oh0_23, oh0_24, oh0_25, .ref h0_leastTime, .ref h0_mostTime, oh0_28, oh0_29, oh0_30, oh0_31, oh0_32, oh0_33, oh0_34, oh0_35, oh0_36, oh0_37])), (h0_parts, .inl (cy 2, 2, .inl v_parts)), (h0_rates, .inl (cy 2, 14, .inl v_rates)), (h0_ways, .inl (cy 2, 14, .inl v_ways)), (h0_mouths, .inl (cy 2, 2, .inl v_mouths)), (h0_winters, .inl (cy 2, 2, .inl v_winters)), (h0_winterFrom, .inl (cy 2, 10, .inl v_winterFrom)), (h0_winterLong, .inl (cy 2, 10, .inl v_winterLong)), (h0_now, .inl (cy 2, 60, .inl v_now)), (h0_leastTime, .inl (cy 2, 287, .inl v_leastTime_89)), (h0_mostTime, .inl (cy 2, 287, .inl v_mostTime_89))] → va_S A s.heap H locs → lv_has ls 5 [(0, .ref h0), (1, .int p1), (2, .int e2_15), (3, .int x3_94)] → W p l e r9_sitOut s m args below meth c H locs 0 0 Q (F0 m 94 ls []) := by
        intro n94
        induction n94 with
        | zero =>
          intro x3_94 H locs ls hM
          exact absurd hM (by simp [f9_sitOut_L94])
        | succ n94 ih94 =>
          intro x3_94 H locs ls hM hP hD hS hl
          rw [f9_sitOut_L94] at hM
          refine lv_iload_n hx hb dX9_sitOut_94 rfl (lv_at hl 3 rfl) ?_
          refine lv_bipush (v := 40) hx hb dX9_sitOut_95 (by decide) ?_
          refine lv_icmp_gt (tgt := 129) hx hb dX9_sitOut_97 (by decide) (fun c97 => ?_) (fun c97 => ?_)
          · have hM := g_pos c97 hM
            refine lv_iconst (v := -1) hx hb dX9_sitOut_129 (by decide) ?_
            obtain ⟨rfl, rfl, rfl⟩ := si3 hM
            exact hret _ _ _ _ _ dX9_sitOut_130 rfl rfl hP hD hS
          · have hM := g_neg c97 hM
            refine lv_aload_n hx hb dX9_sitOut_100 rfl (lv_at hl 0 rfl) ?_
            refine va_get (D := D) (ci := 9) (v := .ref h0_mostTime) (C := RX9) (T := TX9) (N := 38) hx hb hts iX9 hown hK hP 0 rfl rfl 27 (by decide) k63 (fun _ h9 => h9) rfl dX9_sitOut_101 ?_
            refine lv_iload_n hx hb dX9_sitOut_104 rfl (lv_at hl 3 rfl) ?_
            refine lv_iload_n hx hb dX9_sitOut_105 rfl (lv_at hl 1 rfl) ?_
            obtain ⟨r106, hc106, hM⟩ := ob1_some hM
            refine cl_si (As := [.int x3_94, .int p1]) (rest := [.ref h0_mostTime]) (wr := [(h0, .inr (9, [oh0_0, oh0_1, oh0_2, .ref h0_parts, .ref h0_rates, .ref h0_ways, oh0_6, .ref h0_mouths, oh0_8, oh0_9, oh0_10, oh0_11, .ref h0_winters, .ref h0_winterFrom, .ref h0_winterLong, oh0_15, oh0_16, oh0_17, oh0_18, oh0_19, oh0_20, oh0_21, .ref h0_now, oh0_23, oh0_24, oh0_25, .ref h0_leastTime, .ref h0_mostTime, oh0_28, oh0_29, oh0_30, oh0_31, oh0_32, oh0_33, oh0_34, oh0_35, oh0_36, oh0_37])), (h0_parts, .inl (cy 2, 2, .inl v_parts)), (h0_rates, .inl (cy 2, 14, .inl v_rates)), (h0_ways, .inl (cy 2, 14, .inl v_ways)), (h0_mouths, .inl (cy 2, 2, .inl v_mouths)), (h0_winters, .inl (cy 2, 2, .inl v_winters)), (h0_winterFrom, .inl (cy 2, 10, .inl v_winterFrom)), (h0_winterLong, .inl (cy 2, 10, .inl v_winterLong)), (h0_now, .inl (cy 2, 60, .inl v_now)), (h0_leastTime, .inl (cy 2, 287, .inl v_leastTime_89)), (h0_mostTime, .inl (cy 2, 287, .inl v_mostTime_89))]) (ws2 := [(h0, .inr (9, [oh0_0, oh0_1, oh0_2, .ref h0_parts, .ref h0_rates, .ref h0_ways, oh0_6, .ref h0_mouths, oh0_8, oh0_9, oh0_10, oh0_11, .ref h0_winters, .ref h0_winterFrom, .ref h0_winterLong, oh0_15, oh0_16, oh0_17, oh0_18, oh0_19, oh0_20, oh0_21, .ref h0_now, oh0_23, oh0_24, oh0_25, .ref h0_leastTime, .ref h0_mostTime, oh0_28, oh0_29, oh0_30, oh0_31, oh0_32, oh0_33, oh0_34, oh0_35, oh0_36, oh0_37])), (h0_parts, .inl (cy 2, 2, .inl v_parts)), (h0_rates, .inl (cy 2, 14, .inl v_rates)), (h0_ways, .inl (cy 2, 14, .inl v_ways)), (h0_mouths, .inl (cy 2, 2, .inl v_mouths)), (h0_winters, .inl (cy 2, 2, .inl v_winters)), (h0_winterFrom, .inl (cy 2, 10, .inl v_winterFrom)), (h0_winterLong, .inl (cy 2, 10, .inl v_winterLong)), (h0_now, .inl (cy 2, 60, .inl v_now)), (h0_leastTime, .inl (cy 2, 287, .inl v_leastTime_89)), (h0_mostTime, .inl (cy 2, 287, .inl v_mostTime_89))]) (isC := []) (isR := [0, 1, 2, 3, 4, 5, 6, 7, 8, 9, 10]) (pm := [0, 1, 2, 3, 4, 5, 6, 7, 8, 9, 10]) hx hb hml hown hts (c9_index l D cy N x3_94 p1 r106 hc106) (va_cwS 2 hts gX9_sitOut_X9_index rfl rfl rfl (by decide +kernel) ⟨Nat.le_of_ble_eq_true rfl, Nat.le_of_ble_eq_true rfl⟩) hK hP hD hS hA rfl rfl rfl (by decide) rfl rfl rfl hl.1 (Nat.le_of_ble_eq_true rfl) dX9_sitOut_106 ⟨Nat.zero_le _, Nat.zero_le _⟩ rfl rfl (fun H locs hP hD hS => ?_)
            obtain ⟨h109, hM⟩ := gi_some hM
            refine va_iald hx hb hK hP 10 2 rfl rfl h109 dX9_sitOut_109 ?_
            refine lv_iload_n hx hb dX9_sitOut_110 rfl (lv_at hl 2 rfl) ?_
            refine lv_aload_n hx hb dX9_sitOut_111 rfl (lv_at hl 0 rfl) ?_
            refine va_get (D := D) (ci := 9) (v := .ref h0_now) (C := RX9) (T := TX9) (N := 38) hx hb hts iX9 hown hK hP 0 rfl rfl 22 (by decide) k50 (fun _ h9 => h9) rfl dX9_sitOut_112 ?_
            refine lv_iconst (v := 0) hx hb dX9_sitOut_115 (by decide) ?_
            obtain ⟨h116, hM⟩ := gi_some hM
            refine va_iald hx hb hK hP 8 2 rfl rfl h116 dX9_sitOut_116 ?_
            refine lv_isub hx hb dX9_sitOut_117 ?_
            refine lv_icmp_lt (tgt := 123) hx hb dX9_sitOut_118 (by decide) (fun c118 => ?_) (fun c118 => ?_)
            · have hM := g_pos c118 hM
              refine lv_iinc (v := x3_94 + (1 : Int32)) (lv' := [(3, .int (x3_94 + (1 : Int32))), (0, .ref h0), (1, .int p1), (2, .int e2_15)]) hx hb dX9_sitOut_123 hl (k := 3) rfl rfl (by decide) rfl (fun ls hl => ?_)
              refine lv_goto (tgt := 94) hx hb dX9_sitOut_126 (by decide) ?_
              exact ih94 (x3_94 + (1 : Int32)) _ _ _ hM hP hD hS (lv_sub hl [1, 2, 3, 0] rfl)
            · have hM := g_neg c118 hM
              refine lv_iload_n hx hb dX9_sitOut_121 rfl (lv_at hl 3 rfl) ?_
              obtain ⟨rfl, rfl, rfl⟩ := si3 hM
              exact hret _ _ _ _ _ dX9_sitOut_122 rfl rfl hP hD hS
      exact L94 N (1 : Int32) _ _ _ hM hP hD hS (lv_sub hl [1, 2, 3, 0] rfl)
    · have hM := g_pos c82 hM
      refine lv_iconst (v := 0) hx hb dX9_sitOut_85 (by decide) ?_
      obtain ⟨rfl, rfl, rfl⟩ := si3 hM
      exact hret _ _ _ _ _ dX9_sitOut_86 rfl rfl hP hD hS
  · have hM := g_pos c5 hM
    refine lv_ldc (v := -1000000001) hx hb hown k180 dX9_sitOut_8 ?_
    obtain ⟨rfl, rfl, rfl⟩ := si3 hM
    exact hret _ _ _ _ _ dX9_sitOut_10 rfl rfl hP hD hS

-- ===== X9_tryOut tryOut (II)I =====
abbrev r9_tryOut : Room := { frames := 1, cells := 0, slots := 0, locals := 22 }
def f9_tryOut (N : Nat) (p1 : Int32) (p2 : Int32) (v_tries : Int32) (v_tryDays : Nat → Int32) (v_tryTicks : Nat → Int32) : Option (Int32 × Int32 × (Nat → Int32) × (Nat → Int32)) :=
  ob1 (f9_in N p1 (1 : Int32) (40 : Int32)) fun r4 => if r4 = (0 : Int32) then (some ((-1000000002 : Int32), v_tries, v_tryDays, v_tryTicks)) else (ob1 (f9_in N p2 (0 : Int32) (99999 : Int32)) fun r14 => if r14 = (0 : Int32) then (some ((-1000000002 : Int32), v_tries, v_tryDays, v_tryTicks)) else (if v_tries = (10 : Int32) then (some ((-1000000004 : Int32), v_tries, v_tryDays, v_tryTicks)) else (gi v_tries 10 (gi v_tries 10 (some ((v_tries + (1 : Int32)), (v_tries + (1 : Int32)), (upd v_tryDays v_tries.toNatClampNeg p1), (upd v_tryTicks v_tries.toNatClampNeg p2)))))))
set_option maxHeartbeats 4000000 in
set_option maxRecDepth 100000 in
theorem c9_tryOut (l : Launch) (D : va_G) (cy : Nat → ClassId) (N : Nat) (h0 h0_tryDays h0_tryTicks : Nat) (oh0_0 oh0_1 oh0_2 oh0_3 oh0_4 oh0_5 oh0_6 oh0_7 oh0_8 oh0_9 oh0_10 oh0_11 oh0_12 oh0_13 oh0_14 oh0_15 oh0_16 oh0_17 oh0_18 oh0_19 oh0_20 oh0_21 oh0_22 oh0_23 oh0_24 oh0_25 oh0_26 oh0_27 oh0_28 oh0_29 oh0_33 oh0_34 oh0_35 oh0_36 oh0_37 : Value) (p1 : Int32) (p2 : Int32) (v_tries : Int32) (v_tryDays : Nat → Int32) (v_tryTicks : Nat → Int32) (r : Int32) (nv_tries : Int32) (nv_tryDays : Nat → Int32) (nv_tryTicks : Nat → Int32) (hM : f9_tryOut N p1 p2 v_tries v_tryDays v_tryTicks = some (r, nv_tries, nv_tryDays, nv_tryTicks)) (sz : Nat) : CTi l yX9_tryOut wsX9_tryOut r9_tryOut [.ref h0, .int p1, .int p2] D cy sz [(h0, .inr (9, [oh0_0, oh0_1, oh0_2, oh0_3, oh0_4, oh0_5, oh0_6, oh0_7, oh0_8, oh0_9, oh0_10, oh0_11, oh0_12, oh0_13, oh0_14, oh0_15, oh0_16, oh0_17, oh0_18, oh0_19, oh0_20, oh0_21, oh0_22, oh0_23, oh0_24, oh0_25, oh0_26, oh0_27, oh0_28, oh0_29, .ref h0_tryDays, .ref h0_tryTicks, .int v_tries, oh0_33, oh0_34, oh0_35, oh0_36, oh0_37])), (h0_tryDays, .inl (cy 2, 10, .inl v_tryDays)), (h0_tryTicks, .inl (cy 2, 10, .inl v_tryTicks))] [(h0, .inr (9, [oh0_0, oh0_1, oh0_2, oh0_3, oh0_4, oh0_5, oh0_6, oh0_7, oh0_8, oh0_9, oh0_10, oh0_11, oh0_12, oh0_13, oh0_14, oh0_15, oh0_16, oh0_17, oh0_18, oh0_19, oh0_20, oh0_21, oh0_22, oh0_23, oh0_24, oh0_25, oh0_26, oh0_27, oh0_28, oh0_29, .ref h0_tryDays, .ref h0_tryTicks, .int nv_tries, oh0_33, oh0_34, oh0_35, oh0_36, oh0_37])), (h0_tryDays, .inl (cy 2, 10, .inl nv_tryDays)), (h0_tryTicks, .inl (cy 2, 10, .inl nv_tryTicks))] r := by
  unfold f9_tryOut at hM
  refine ct_oi (cc := cX9_tryOut) (maxL := 3) (ty := .int) (by decide +kernel) rfl (Nat.le_of_ble_eq_true rfl) (lv0 := [(0, .ref h0), (1, .int p1), (2, .int p2)]) rfl ?_
  intro p e s m args below meth c A Q ls hx hb hts hown hml hK hP hD hS hA hret hl
  have hown : s.vm.findClass RX9 = some m.cls := hown
  have k99 := hts (.constant RX9 99 (-1000000002)) (List.mem_of_getElem? (i := 2) (by decide +kernel))
  have k251 := hts (.constant RX9 251 (99999)) (List.mem_of_getElem? (i := 1) (by decide +kernel))
  have k162 := hts (.fieldLink RX9 162 "CaveYearsModel" "tries" "I") (List.mem_of_getElem? (i := 3) (by decide +kernel))
  have iX9 := (fun w h => (List.mem_cons_of_mem _ (List.mem_append_right _ h)) : ∀ w ∈ wsX90, w ∈ wsX9_tryOut)
  have k73 := hts (.fieldLink RX9 73 "CaveYearsModel" "tryDays" "[I") (List.mem_of_getElem? (i := 5) (by decide +kernel))
  have k76 := hts (.fieldLink RX9 76 "CaveYearsModel" "tryTicks" "[I") (List.mem_of_getElem? (i := 6) (by decide +kernel))
  have k103 := hts (.constant RX9 103 (-1000000004)) (List.mem_of_getElem? (i := 4) (by decide +kernel))
  refine lv_iload_n hx hb dX9_tryOut_0 rfl (lv_at hl 1 rfl) ?_
  refine lv_iconst (v := 1) hx hb dX9_tryOut_1 (by decide) ?_
  refine lv_bipush (v := 40) hx hb dX9_tryOut_2 (by decide) ?_
  obtain ⟨r4, hc4, hM⟩ := ob1_some hM
  refine cl_si (As := [.int p1, .int (1 : Int32), .int (40 : Int32)]) (rest := []) (wr := [(h0, .inr (9, [oh0_0, oh0_1, oh0_2, oh0_3, oh0_4, oh0_5, oh0_6, oh0_7, oh0_8, oh0_9, oh0_10, oh0_11, oh0_12, oh0_13, oh0_14, oh0_15, oh0_16, oh0_17, oh0_18, oh0_19, oh0_20, oh0_21, oh0_22, oh0_23, oh0_24, oh0_25, oh0_26, oh0_27, oh0_28, oh0_29, .ref h0_tryDays, .ref h0_tryTicks, .int v_tries, oh0_33, oh0_34, oh0_35, oh0_36, oh0_37])), (h0_tryDays, .inl (cy 2, 10, .inl v_tryDays)), (h0_tryTicks, .inl (cy 2, 10, .inl v_tryTicks))]) (ws2 := [(h0, .inr (9, [oh0_0, oh0_1, oh0_2, oh0_3, oh0_4, oh0_5, oh0_6, oh0_7, oh0_8, oh0_9, oh0_10, oh0_11, oh0_12, oh0_13, oh0_14, oh0_15, oh0_16, oh0_17, oh0_18, oh0_19, oh0_20, oh0_21, oh0_22, oh0_23, oh0_24, oh0_25, oh0_26, oh0_27, oh0_28, oh0_29, .ref h0_tryDays, .ref h0_tryTicks, .int v_tries, oh0_33, oh0_34, oh0_35, oh0_36, oh0_37])), (h0_tryDays, .inl (cy 2, 10, .inl v_tryDays)), (h0_tryTicks, .inl (cy 2, 10, .inl v_tryTicks))]) (isC := []) (isR := [0, 1, 2]) (pm := [0, 1, 2]) hx hb hml hown hts (c9_in l D cy N p1 (1 : Int32) (40 : Int32) r4 hc4) (va_cwS 3 hts gX9_tryOut_X9_in rfl rfl rfl (by decide +kernel) ⟨Nat.le_of_ble_eq_true rfl, Nat.le_of_ble_eq_true rfl⟩) hK hP hD hS hA rfl rfl rfl (by decide) rfl rfl rfl hl.1 (Nat.le_of_ble_eq_true rfl) dX9_tryOut_4 ⟨Nat.zero_le _, Nat.zero_le _⟩ rfl rfl (fun H locs hP hD hS => ?_)
  refine lv_if_eq (tgt := 20) hx hb dX9_tryOut_7 (by decide) (fun c7 => ?_) (fun c7 => ?_)
  · have hM := g_pos c7 hM
    refine lv_ldc (v := -1000000002) hx hb hown k99 dX9_tryOut_20 ?_
    obtain ⟨rfl, rfl, rfl, rfl⟩ := si4 hM
    exact hret _ _ _ _ _ dX9_tryOut_22 rfl rfl hP hD hS
  · have hM := g_neg c7 hM
    refine lv_iload_n hx hb dX9_tryOut_10 rfl (lv_at hl 2 rfl) ?_
    refine lv_iconst (v := 0) hx hb dX9_tryOut_11 (by decide) ?_
    refine lv_ldc (v := 99999) hx hb hown k251 dX9_tryOut_12 ?_
    obtain ⟨r14, hc14, hM⟩ := ob1_some hM
    refine cl_si (As := [.int p2, .int (0 : Int32), .int (99999 : Int32)]) (rest := []) (wr := [(h0, .inr (9, [oh0_0, oh0_1, oh0_2, oh0_3, oh0_4, oh0_5, oh0_6, oh0_7, oh0_8, oh0_9, oh0_10, oh0_11, oh0_12, oh0_13, oh0_14, oh0_15, oh0_16, oh0_17, oh0_18, oh0_19, oh0_20, oh0_21, oh0_22, oh0_23, oh0_24, oh0_25, oh0_26, oh0_27, oh0_28, oh0_29, .ref h0_tryDays, .ref h0_tryTicks, .int v_tries, oh0_33, oh0_34, oh0_35, oh0_36, oh0_37])), (h0_tryDays, .inl (cy 2, 10, .inl v_tryDays)), (h0_tryTicks, .inl (cy 2, 10, .inl v_tryTicks))]) (ws2 := [(h0, .inr (9, [oh0_0, oh0_1, oh0_2, oh0_3, oh0_4, oh0_5, oh0_6, oh0_7, oh0_8, oh0_9, oh0_10, oh0_11, oh0_12, oh0_13, oh0_14, oh0_15, oh0_16, oh0_17, oh0_18, oh0_19, oh0_20, oh0_21, oh0_22, oh0_23, oh0_24, oh0_25, oh0_26, oh0_27, oh0_28, oh0_29, .ref h0_tryDays, .ref h0_tryTicks, .int v_tries, oh0_33, oh0_34, oh0_35, oh0_36, oh0_37])), (h0_tryDays, .inl (cy 2, 10, .inl v_tryDays)), (h0_tryTicks, .inl (cy 2, 10, .inl v_tryTicks))]) (isC := []) (isR := [0, 1, 2]) (pm := [0, 1, 2]) hx hb hml hown hts (c9_in l D cy N p2 (0 : Int32) (99999 : Int32) r14 hc14) (va_cwS 3 hts gX9_tryOut_X9_in rfl rfl rfl (by decide +kernel) ⟨Nat.le_of_ble_eq_true rfl, Nat.le_of_ble_eq_true rfl⟩) hK hP hD hS hA rfl rfl rfl (by decide) rfl rfl rfl hl.1 (Nat.le_of_ble_eq_true rfl) dX9_tryOut_14 ⟨Nat.zero_le _, Nat.zero_le _⟩ rfl rfl (fun H locs hP hD hS => ?_)
    refine lv_if_ne (tgt := 23) hx hb dX9_tryOut_17 (by decide) (fun c17 => ?_) (fun c17 => ?_)
    · have hM := g_neg c17 hM
      refine lv_aload_n hx hb dX9_tryOut_23 rfl (lv_at hl 0 rfl) ?_
      refine va_get (D := D) (ci := 9) (v := .int v_tries) (C := RX9) (T := TX9) (N := 38) hx hb hts iX9 hown hK hP 0 rfl rfl 32 (by decide) k162 (fun _ h9 => h9) rfl dX9_tryOut_24 ?_
      refine lv_bipush (v := 10) hx hb dX9_tryOut_27 (by decide) ?_
      refine lv_icmp_ne (tgt := 35) hx hb dX9_tryOut_29 (by decide) (fun c29 => ?_) (fun c29 => ?_)
      · have hM := g_neg c29 hM
        refine lv_aload_n hx hb dX9_tryOut_35 rfl (lv_at hl 0 rfl) ?_
        refine va_get (D := D) (ci := 9) (v := .ref h0_tryDays) (C := RX9) (T := TX9) (N := 38) hx hb hts iX9 hown hK hP 0 rfl rfl 30 (by decide) k73 (fun _ h9 => h9) rfl dX9_tryOut_36 ?_
        refine lv_aload_n hx hb dX9_tryOut_39 rfl (lv_at hl 0 rfl) ?_
        refine va_get (D := D) (ci := 9) (v := .int v_tries) (C := RX9) (T := TX9) (N := 38) hx hb hts iX9 hown hK hP 0 rfl rfl 32 (by decide) k162 (fun _ h9 => h9) rfl dX9_tryOut_40 ?_
        refine lv_iload_n hx hb dX9_tryOut_43 rfl (lv_at hl 1 rfl) ?_
        obtain ⟨h44, hM⟩ := gi_some hM
        refine va_iast hx hb hK hP hD hS 1 2 rfl rfl h44 dX9_tryOut_44 (fun H locs hP hD hS => ?_)
        have hP : va_P D vwCl [(h0, .inr (9, [oh0_0, oh0_1, oh0_2, oh0_3, oh0_4, oh0_5, oh0_6, oh0_7, oh0_8, oh0_9, oh0_10, oh0_11, oh0_12, oh0_13, oh0_14, oh0_15, oh0_16, oh0_17, oh0_18, oh0_19, oh0_20, oh0_21, oh0_22, oh0_23, oh0_24, oh0_25, oh0_26, oh0_27, oh0_28, oh0_29, .ref h0_tryDays, .ref h0_tryTicks, .int v_tries, oh0_33, oh0_34, oh0_35, oh0_36, oh0_37])), (h0_tryDays, .inl (cy 2, 10, .inl (upd v_tryDays v_tries.toNatClampNeg p1))), (h0_tryTicks, .inl (cy 2, 10, .inl v_tryTicks))] H := hP
        have hD : va_D A [(h0, .inr (9, [oh0_0, oh0_1, oh0_2, oh0_3, oh0_4, oh0_5, oh0_6, oh0_7, oh0_8, oh0_9, oh0_10, oh0_11, oh0_12, oh0_13, oh0_14, oh0_15, oh0_16, oh0_17, oh0_18, oh0_19, oh0_20, oh0_21, oh0_22, oh0_23, oh0_24, oh0_25, oh0_26, oh0_27, oh0_28, oh0_29, .ref h0_tryDays, .ref h0_tryTicks, .int v_tries, oh0_33, oh0_34, oh0_35, oh0_36, oh0_37])), (h0_tryDays, .inl (cy 2, 10, .inl (upd v_tryDays v_tries.toNatClampNeg p1))), (h0_tryTicks, .inl (cy 2, 10, .inl v_tryTicks))] := hD
        refine lv_aload_n hx hb dX9_tryOut_45 rfl (lv_at hl 0 rfl) ?_
        refine va_get (D := D) (ci := 9) (v := .ref h0_tryTicks) (C := RX9) (T := TX9) (N := 38) hx hb hts iX9 hown hK hP 0 rfl rfl 31 (by decide) k76 (fun _ h9 => h9) rfl dX9_tryOut_46 ?_
        refine lv_aload_n hx hb dX9_tryOut_49 rfl (lv_at hl 0 rfl) ?_
        refine va_get (D := D) (ci := 9) (v := .int v_tries) (C := RX9) (T := TX9) (N := 38) hx hb hts iX9 hown hK hP 0 rfl rfl 32 (by decide) k162 (fun _ h9 => h9) rfl dX9_tryOut_50 ?_
        refine lv_iload_n hx hb dX9_tryOut_53 rfl (lv_at hl 2 rfl) ?_
        obtain ⟨h54, hM⟩ := gi_some hM
        refine va_iast hx hb hK hP hD hS 2 2 rfl rfl h54 dX9_tryOut_54 (fun H locs hP hD hS => ?_)
        have hP : va_P D vwCl [(h0, .inr (9, [oh0_0, oh0_1, oh0_2, oh0_3, oh0_4, oh0_5, oh0_6, oh0_7, oh0_8, oh0_9, oh0_10, oh0_11, oh0_12, oh0_13, oh0_14, oh0_15, oh0_16, oh0_17, oh0_18, oh0_19, oh0_20, oh0_21, oh0_22, oh0_23, oh0_24, oh0_25, oh0_26, oh0_27, oh0_28, oh0_29, .ref h0_tryDays, .ref h0_tryTicks, .int v_tries, oh0_33, oh0_34, oh0_35, oh0_36, oh0_37])), (h0_tryDays, .inl (cy 2, 10, .inl (upd v_tryDays v_tries.toNatClampNeg p1))), (h0_tryTicks, .inl (cy 2, 10, .inl (upd v_tryTicks v_tries.toNatClampNeg p2)))] H := hP
        have hD : va_D A [(h0, .inr (9, [oh0_0, oh0_1, oh0_2, oh0_3, oh0_4, oh0_5, oh0_6, oh0_7, oh0_8, oh0_9, oh0_10, oh0_11, oh0_12, oh0_13, oh0_14, oh0_15, oh0_16, oh0_17, oh0_18, oh0_19, oh0_20, oh0_21, oh0_22, oh0_23, oh0_24, oh0_25, oh0_26, oh0_27, oh0_28, oh0_29, .ref h0_tryDays, .ref h0_tryTicks, .int v_tries, oh0_33, oh0_34, oh0_35, oh0_36, oh0_37])), (h0_tryDays, .inl (cy 2, 10, .inl (upd v_tryDays v_tries.toNatClampNeg p1))), (h0_tryTicks, .inl (cy 2, 10, .inl (upd v_tryTicks v_tries.toNatClampNeg p2)))] := hD
        refine lv_aload_n hx hb dX9_tryOut_55 rfl (lv_at hl 0 rfl) ?_
        refine lv_dup hx hb dX9_tryOut_56 rfl ?_
        refine va_get (D := D) (ci := 9) (v := .int v_tries) (C := RX9) (T := TX9) (N := 38) hx hb hts iX9 hown hK hP 0 rfl rfl 32 (by decide) k162 (fun _ h9 => h9) rfl dX9_tryOut_57 ?_
        refine lv_iconst (v := 1) hx hb dX9_tryOut_60 (by decide) ?_
        refine lv_iadd hx hb dX9_tryOut_61 ?_
        refine va_put (D := D) (ci := 9) (v := .int (v_tries + (1 : Int32))) (ty := .int) (C := RX9) (T := TX9) (N := 38) hx hb hts iX9 tyX9 tyX9_ok nmX9 hown hK hP hD hS 0 rfl rfl 32 (by decide) k162 (fun _ h9 => h9) rfl (by decide +kernel) rfl rfl (Nat.le_of_ble_eq_true rfl) dX9_tryOut_62 (fun H locs hP hD hS => ?_)
        have hP : va_P D vwCl [(h0, .inr (9, [oh0_0, oh0_1, oh0_2, oh0_3, oh0_4, oh0_5, oh0_6, oh0_7, oh0_8, oh0_9, oh0_10, oh0_11, oh0_12, oh0_13, oh0_14, oh0_15, oh0_16, oh0_17, oh0_18, oh0_19, oh0_20, oh0_21, oh0_22, oh0_23, oh0_24, oh0_25, oh0_26, oh0_27, oh0_28, oh0_29, .ref h0_tryDays, .ref h0_tryTicks, .int (v_tries + (1 : Int32)), oh0_33, oh0_34, oh0_35, oh0_36, oh0_37])), (h0_tryDays, .inl (cy 2, 10, .inl (upd v_tryDays v_tries.toNatClampNeg p1))), (h0_tryTicks, .inl (cy 2, 10, .inl (upd v_tryTicks v_tries.toNatClampNeg p2)))] H := hP
        have hD : va_D A [(h0, .inr (9, [oh0_0, oh0_1, oh0_2, oh0_3, oh0_4, oh0_5, oh0_6, oh0_7, oh0_8, oh0_9, oh0_10, oh0_11, oh0_12, oh0_13, oh0_14, oh0_15, oh0_16, oh0_17, oh0_18, oh0_19, oh0_20, oh0_21, oh0_22, oh0_23, oh0_24, oh0_25, oh0_26, oh0_27, oh0_28, oh0_29, .ref h0_tryDays, .ref h0_tryTicks, .int (v_tries + (1 : Int32)), oh0_33, oh0_34, oh0_35, oh0_36, oh0_37])), (h0_tryDays, .inl (cy 2, 10, .inl (upd v_tryDays v_tries.toNatClampNeg p1))), (h0_tryTicks, .inl (cy 2, 10, .inl (upd v_tryTicks v_tries.toNatClampNeg p2)))] := hD
        refine lv_aload_n hx hb dX9_tryOut_65 rfl (lv_at hl 0 rfl) ?_
        refine va_get (D := D) (ci := 9) (v := .int (v_tries + (1 : Int32))) (C := RX9) (T := TX9) (N := 38) hx hb hts iX9 hown hK hP 0 rfl rfl 32 (by decide) k162 (fun _ h9 => h9) rfl dX9_tryOut_66 ?_
        obtain ⟨rfl, rfl, rfl, rfl⟩ := si4 hM
        exact hret _ _ _ _ _ dX9_tryOut_69 rfl rfl hP hD hS
      · have hM := g_pos c29 hM
        refine lv_ldc (v := -1000000004) hx hb hown k103 dX9_tryOut_32 ?_
        obtain ⟨rfl, rfl, rfl, rfl⟩ := si4 hM
        exact hret _ _ _ _ _ dX9_tryOut_34 rfl rfl hP hD hS
    · have hM := g_pos c17 hM
      refine lv_ldc (v := -1000000002) hx hb hown k99 dX9_tryOut_20 ?_
      obtain ⟨rfl, rfl, rfl, rfl⟩ := si4 hM
      exact hret _ _ _ _ _ dX9_tryOut_22 rfl rfl hP hD hS
