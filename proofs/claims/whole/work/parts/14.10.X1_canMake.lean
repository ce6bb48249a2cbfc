-- ===== X1_canMake canMake (III)Z =====
abbrev r1_canMake : Room := { frames := 1, cells := 0, slots := 0, locals := 21 }
def f1_canMake (N : Nat) (p1 : Int32) (p2 : Int32) (p3 : Int32) (v_times : Nat → Nat → Int64) : Option Int32 :=
  ob1 (f1_isRow N p1 p2) fun r2 => if r2 = (0 : Int32) then (some (0 : Int32)) else (if p3 < (0 : Int32) then (some (0 : Int32)) else (if p3 ≤ (6000 : Int32) then (gi ((p1 * (7 : Int32)) + p2) 287 (gi (p3 / (64 : Int32)) 94 (if (lg_cmp (((((v_times ((p1 * (7 : Int32)) + p2).toNatClampNeg) (p3 / (64 : Int32)).toNatClampNeg).toUInt64 >>> ((p3 - p3 / (64 : Int32) * (64 : Int32)).toInt64.toUInt64 &&& Int64.toUInt64 63)).toInt64) &&& (1 : Int64)) (1 : Int64)) = (0 : Int32) then (some (1 : Int32)) else (some (0 : Int32))))) else (some (0 : Int32))))
set_option maxHeartbeats 4000000 in
set_option maxRecDepth 100000 in
theorem c1_canMake (l : Launch) (D : va_G) (cy : Nat → ClassId) (N : Nat) (rh0_times : Nat → Nat) (h0 h0_times : Nat) (oh0_1 : Value) (p1 : Int32) (p2 : Int32) (p3 : Int32) (v_times : Nat → Nat → Int64) (r : Int32) (hM : f1_canMake N p1 p2 p3 v_times = some r) (sz : Nat) : CTi l yX1_canMake wsX1_canMake r1_canMake [.ref h0, .int p1, .int p2, .int p3] D cy sz ([(h0, .inr (1, [.ref h0_times, oh0_1])), (h0_times, .inl (cy 6, 287, gO 287 rh0_times))] ++ (gWL rh0_times 287 94 (cy 3) v_times)) ([(h0, .inr (1, [.ref h0_times, oh0_1])), (h0_times, .inl (cy 6, 287, gO 287 rh0_times))] ++ (gWL rh0_times 287 94 (cy 3) v_times)) r := by
  unfold f1_canMake at hM
  refine ct_oi (cc := cX1_canMake) (maxL := 4) (ty := .boolean) (by decide +kernel) rfl (Nat.le_of_ble_eq_true rfl) (lv0 := [(0, .ref h0), (1, .int p1), (2, .int p2), (3, .int p3)]) rfl ?_
  intro p e s m args below meth c A Q ls hx hb hts hown hml hK hP hD hS hA hret hl
  have hown : s.vm.findClass RX1 = some m.cls := hown
  have k13 := hts (.fieldLink RX1 13 "CaveYears$ExactTimes" "times" "[[J") (List.mem_of_getElem? (i := 1) rfl)
  have iX1 := (fun w h => (List.mem_cons_of_mem _ (List.mem_append_right _ h)) : ∀ w ∈ wsX10, w ∈ wsX1_canMake)
  refine lv_iload_n hx hb dX1_canMake_0 rfl (lv_at hl 1 rfl) ?_
  refine lv_iload_n hx hb dX1_canMake_1 rfl (lv_at hl 2 rfl) ?_
  obtain ⟨r2, hc2, hM⟩ := ob1_some hM
  refine cg_si (As := [.int p1, .int p2]) (rest := []) (wr := ([(h0, .inr (1, [.ref h0_times, oh0_1])), (h0_times, .inl (cy 6, 287, gO 287 rh0_times))] ++ (gWL rh0_times 287 94 (cy 3) v_times))) (ws2 := ([(h0, .inr (1, [.ref h0_times, oh0_1])), (h0_times, .inl (cy 6, 287, gO 287 rh0_times))] ++ (gWL rh0_times 287 94 (cy 3) v_times))) hx hb hml hown hts (c1_isRow l D cy N p1 p2 r2 hc2) (va_cwS 2 hts gX1_canMake_X1_isRow rfl rfl rfl (by decide +kernel) ⟨Nat.le_of_ble_eq_true rfl, Nat.le_of_ble_eq_true rfl⟩) hK hP hD hS hA (pm_Q (pm_x [0, 1] rfl rfl)) (pm_Q (pm_x [0, 1] rfl rfl)).symm rfl rfl hl.1 (Nat.le_of_ble_eq_true rfl) dX1_canMake_2 ⟨Nat.zero_le _, Nat.zero_le _⟩ (fun H locs hP hD hS => ?_)
  refine lv_if_eq (tgt := 19) hx hb dX1_canMake_5 (by decide) (fun c5 => ?_) (fun c5 => ?_)
  · have hM := g_pos c5 hM
    refine lv_iconst (v := 0) hx hb dX1_canMake_19 (by decide) ?_
    obtain rfl := si1 hM
    exact hret _ _ _ _ _ dX1_canMake_20 rfl rfl hP hD hS
  · have hM := g_neg c5 hM
    refine lv_iload_n hx hb dX1_canMake_8 rfl (lv_at hl 3 rfl) ?_
    refine lv_if_lt (tgt := 19) hx hb dX1_canMake_9 (by decide) (fun c9 => ?_) (fun c9 => ?_)
    · have hM := g_pos c9 hM
      refine lv_iconst (v := 0) hx hb dX1_canMake_19 (by decide) ?_
      obtain rfl := si1 hM
      exact hret _ _ _ _ _ dX1_canMake_20 rfl rfl hP hD hS
    · have hM := g_neg c9 hM
      refine lv_iload_n hx hb dX1_canMake_12 rfl (lv_at hl 3 rfl) ?_
      refine lv_sipush (v := 6000) hx hb dX1_canMake_13 (by decide) ?_
      refine lv_icmp_le (tgt := 21) hx hb dX1_canMake_16 (by decide) (fun c16 => ?_) (fun c16 => ?_)
      · have hM := g_pos c16 hM
        refine lv_aload_n hx hb dX1_canMake_21 rfl (lv_at hl 0 rfl) ?_
        refine va_get (D := D) (ci := 1) (v := .ref h0_times) (C := RX1) (T := TX1) (N := 2) hx hb hts iX1 hown hK hP 0 rfl rfl 0 (by decide) k13 (fun _ h9 => h9) rfl dX1_canMake_22 ?_
        refine lv_iload_n hx hb dX1_canMake_25 rfl (lv_at hl 1 rfl) ?_
        refine lv_bipush (v := 7) hx hb dX1_canMake_26 (by decide) ?_
        refine lv_imul hx hb dX1_canMake_28 ?_
        refine lv_iload_n hx hb dX1_canMake_29 rfl (lv_at hl 2 rfl) ?_
        refine lv_iadd hx hb dX1_canMake_30 ?_
        obtain ⟨h31, hM⟩ := gi_some hM
        refine wv_aald hx hb hK hP 1 6 rfl rfl h31 dX1_canMake_31 ?_
        refine lv_iload_n hx hb dX1_canMake_32 rfl (lv_at hl 3 rfl) ?_
        refine lv_bipush (v := 64) hx hb dX1_canMake_33 (by decide) ?_
        refine lv_idiv hx hb dX1_canMake_35 (by decide) ?_
        obtain ⟨h36, hM⟩ := gi_some hM
        refine wv_lald hx hb hK hP 3 (gWL_rowS h31) rfl h36 dX1_canMake_36 ?_
        refine lv_iload_n hx hb dX1_canMake_37 rfl (lv_at hl 3 rfl) ?_
        refine lv_bipush (v := 64) hx hb dX1_canMake_38 (by decide) ?_
        refine lv_irem hx hb dX1_canMake_40 (by decide) ?_
        refine lv_lushr (v := (((v_times ((p1 * (7 : Int32)) + p2).toNatClampNeg) (p3 / (64 : Int32)).toNatClampNeg).toUInt64 >>> ((p3 - p3 / (64 : Int32) * (64 : Int32)).toInt64.toUInt64 &&& Int64.toUInt64 63)).toInt64) hx hb dX1_canMake_41 rfl ?_
        refine lv_lconst (v := 1) hx hb dX1_canMake_42 (by decide) ?_
        refine lv_land hx hb dX1_canMake_43 ?_
        refine lv_lconst (v := 1) hx hb dX1_canMake_44 (by decide) ?_
        refine W.lcmp hx hb dX1_canMake_45 ?_
        refine lv_if_ne (tgt := 53) hx hb dX1_canMake_46 (by decide) (fun c46 => ?_) (fun c46 => ?_)
        · have hM := g_neg c46 hM
          refine lv_iconst (v := 0) hx hb dX1_canMake_53 (by decide) ?_
          obtain rfl := si1 hM
          exact hret _ _ _ _ _ dX1_canMake_54 rfl rfl hP hD hS
        · have hM := g_pos c46 hM
          refine lv_iconst (v := 1) hx hb dX1_canMake_49 (by decide) ?_
          refine lv_goto (tgt := 54) hx hb dX1_canMake_50 (by decide) ?_
          obtain rfl := si1 hM
          exact hret _ _ _ _ _ dX1_canMake_54 rfl rfl hP hD hS
      · have hM := g_neg c16 hM
        refine lv_iconst (v := 0) hx hb dX1_canMake_19 (by decide) ?_
        obtain rfl := si1 hM
        exact hret _ _ _ _ _ dX1_canMake_20 rfl rfl hP hD hS
