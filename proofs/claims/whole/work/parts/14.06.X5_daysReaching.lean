-- ===== X5_daysReaching daysReaching (LCaveYears$Cave;III)I =====
abbrev r5_daysReaching : Room := { frames := 5, cells := 0, slots := 0, locals := 116 }
def f5_daysReaching_L3 (N : Nat) (p2 : Int32) (p3 : Int32) (p4 : Int32) (w1_parts : Int32) (w1_rate : Nat → Int32) (w1_near : Nat → Int32) : Nat → Int32 → (Nat → Nat → Int32) → (Nat → Nat → Int32) → Option (Int32 × (Nat → Nat → Int32) × (Nat → Nat → Int32))
  | 0, _, _, _ => none
  | n + 1, x5_3, v_least_3, v_most_3 => if (40 : Int32) < x5_3 then (some ((-1 : Int32), v_least_3, v_most_3)) else (ob2 (f5_layDay N p3 x5_3 v_least_3 v_most_3 w1_parts w1_rate w1_near) fun v_least_15 v_most_15 => ob1 (f5_mostTime N x5_3 p2 v_least_15 v_most_15) fun r22 => if r22 < (if (0 : Int32) < p4 then p4 else (0 : Int32)) then ((f5_daysReaching_L3 N p2 p3 p4 w1_parts w1_rate w1_near n) (x5_3 + (1 : Int32)) v_least_15 v_most_15) else (some (x5_3, v_least_15, v_most_15)))
def f5_daysReaching (N : Nat) (p2 : Int32) (p3 : Int32) (p4 : Int32) (v_least : Nat → Nat → Int32) (v_most : Nat → Nat → Int32) (w1_parts : Int32) (w1_rate : Nat → Int32) (w1_near : Nat → Int32) : Option (Int32 × (Nat → Nat → Int32) × (Nat → Nat → Int32)) :=
  f5_daysReaching_L3 N p2 p3 p4 w1_parts w1_rate w1_near N (1 : Int32) v_least v_most
set_option maxHeartbeats 4000000 in
set_option maxRecDepth 100000 in
theorem c5_daysReaching (l : Launch) (D : va_G) (cy : Nat → ClassId) (N : Nat) (rh0_least : Nat → Nat) (rh0_most : Nat → Nat) (h0 h0_least h0_most g1 g1_rate g1_near : Nat) (og1_1 og1_2 og1_3 og1_4 og1_5 og1_6 og1_9 og1_10 og1_11 og1_12 : Value) (p2 : Int32) (p3 : Int32) (p4 : Int32) (v_least : Nat → Nat → Int32) (v_most : Nat → Nat → Int32) (w1_parts : Int32) (w1_rate : Nat → Int32) (w1_near : Nat → Int32) (r : Int32) (nv_least : Nat → Nat → Int32) (nv_most : Nat → Nat → Int32) (hM : f5_daysReaching N p2 p3 p4 v_least v_most w1_parts w1_rate w1_near = some (r, nv_least, nv_most)) (sz : Nat) : CTi l yX5_daysReaching wsX5_daysReaching r5_daysReaching [.ref h0, .ref g1, .int p2, .int p3, .int p4] D cy sz ([(h0, .inr (5, [.ref h0_least, .ref h0_most])), (h0_least, .inl (cy 5, 41, gO 41 rh0_least)), (h0_most, .inl (cy 5, 41, gO 41 rh0_most)), (g1, .inr (0, [.int w1_parts, og1_1, og1_2, og1_3, og1_4, og1_5, og1_6, .ref g1_rate, .ref g1_near, og1_9, og1_10, og1_11, og1_12])), (g1_rate, .inl (cy 2, 7, .inl w1_rate)), (g1_near, .inl (cy 2, 7, .inl w1_near))] ++ (gW rh0_least 41 7 (cy 2) v_least ++ gW rh0_most 41 7 (cy 2) v_most)) ([(h0, .inr (5, [.ref h0_least, .ref h0_most])), (h0_least, .inl (cy 5, 41, gO 41 rh0_least)), (h0_most, .inl (cy 5, 41, gO 41 rh0_most)), (g1, .inr (0, [.int w1_parts, og1_1, og1_2, og1_3, og1_4, og1_5, og1_6, .ref g1_rate, .ref g1_near, og1_9, og1_10, og1_11, og1_12])), (g1_rate, .inl (cy 2, 7, .inl w1_rate)), (g1_near, .inl (cy 2, 7, .inl w1_near))] ++ (gW rh0_least 41 7 (cy 2) nv_least ++ gW rh0_most 41 7 (cy 2) nv_most)) r := by
  unfold f5_daysReaching at hM
  refine ct_oi (cc := cX5_daysReaching) (maxL := 6) (ty := .int) (by decide +kernel) rfl (Nat.le_of_ble_eq_true rfl) (lv0 := [(0, .ref h0), (1, .ref g1), (2, .int p2), (3, .int p3), (4, .int p4)]) rfl ?_
  intro p e s m args below meth c A Q ls hx hb hts hown hml hK hP hD hS hA hret hl
  have hown : s.vm.findClass RX5 = some m.cls := hown
  have k31 := hts (.methodLink RX5 31 Lib.Math.max.name) (List.mem_of_getElem? (i := 1) rfl)
  have ks31 := hts (.static Lib.Math.max.name) (List.mem_of_getElem? (i := 2) rfl)
  have kmath := hts (.initialized "java/lang/Math") (List.mem_of_getElem? (i := 3) rfl)
  have kc31 := hts (.code Lib.Math.max.name Lib.Math.max.code 2 (some .int)) (List.mem_of_getElem? (i := 4) rfl)
  refine lv_iconst (v := 1) hx hb dX5_daysReaching_0 (by decide) ?_
  refine lv_istore (lv' := [(5, .int (1 : Int32)), (0, .ref h0), (1, .ref g1), (2, .int p2), (3, .int p3), (4, .int p4)]) hx hb dX5_daysReaching_1 hl (by decide) rfl (fun ls hl => ?_)
  have L3 : ∀ (n : Nat) (x5_3 : Int32) (v_least_3 : Nat → Nat → Int32) (v_most_3 : Nat → Nat → Int32) (H : Heap) (locs : List Loc) (ls : Array Slot), f5_daysReaching_L3 N p2 p3 p4 w1_parts w1_rate w1_near n x5_3 v_least_3 v_most_3 = some (r, nv_least, nv_most) → va_P D vwCl ([(h0, .inr (5, [.ref h0_least, .ref h0_most])), (h0_least, .inl (cy 5, 41, gO 41 rh0_least)), (h0_most, .inl (cy 5, 41, gO 41 rh0_most)), (g1, .inr (0, [.int w1_parts, og1_1, og1_2, og1_3, og1_4, og1_5, og1_6, .ref g1_rate, .ref g1_near, og1_9, og1_10, og1_11, og1_12])), (g1_rate, .inl (cy 2, 7, .inl w1_rate)), (g1_near, .inl (cy 2, 7, .inl w1_near))] ++ (gW rh0_least 41 7 (cy 2) v_least_3 ++ gW rh0_most 41 7 (cy 2) v_most_3)) H → va_D A ([(h0, .inr (5, [.ref h0_least, .ref h0_most])), (h0_least, .inl (cy 5, 41, gO 41 rh0_least)), (h0_most, .inl (cy 5, 41, gO 41 rh0_most)), (g1, .inr (0, [.int w1_parts, og1_1, og1_2, og1_3, og1_4, og1_5, og1_6, .ref g1_rate, .ref g1_near, og1_9, og1_10, og1_11, og1_12])), (g1_rate, .inl (cy 2, 7, .inl w1_rate)), (g1_near, .inl (cy 2, 7, .inl w1_near))] ++ (gW rh0_least 41 7 (cy 2) v_least_3 ++ gW rh0_most 41 7 (cy 2) v_most_3)) → va_S A s.heap H locs → lv_has ls 6 [(0, .ref h0), (1, .ref g1), (2, .int p2), (3, .int p3), (4, .int p4), (5, .int x5_3)] → W p l e r5_daysReaching s m args below meth c H locs 0 0 Q (F0 m 3 ls []) := by
    intro n
    induction n with
    | zero =>
      intro x5_3 v_least_3 v_most_3 H locs ls hM
      exact absurd hM (by simp [f5_daysReaching_L3])
    | succ n ih =>
      intro x5_3 v_least_3 v_most_3 H locs ls hM hP hD hS hl
      rw [f5_daysReaching_L3] at hM
      refine lv_iload hx hb dX5_daysReaching_3 (lv_at hl 5 rfl) ?_
      refine lv_bipush (v := 40) hx hb dX5_daysReaching_5 (by decide) ?_
      refine lv_icmp_gt (tgt := 43) hx hb dX5_daysReaching_7 (by decide) (fun c7 => ?_) (fun c7 => ?_)
      · have hM := g_pos c7 hM
        refine lv_iconst (v := -1) hx hb dX5_daysReaching_43 (by decide) ?_
        obtain ⟨rfl, rfl, rfl⟩ := si3 hM
        exact hret _ _ _ _ _ dX5_daysReaching_44 rfl rfl hP hD hS
      · have hM := g_neg c7 hM
        refine lv_aload_n hx hb dX5_daysReaching_10 rfl (lv_at hl 0 rfl) ?_
        refine lv_aload_n hx hb dX5_daysReaching_11 rfl (lv_at hl 1 rfl) ?_
        refine lv_iload_n hx hb dX5_daysReaching_12 rfl (lv_at hl 3 rfl) ?_
        refine lv_iload hx hb dX5_daysReaching_13 (lv_at hl 5 rfl) ?_
        obtain ⟨v_least_15, v_most_15, hc15, hM⟩ := ob2_some hM
        refine cg_vv (As := [.ref g1, .int p3, .int x5_3]) (rest := []) (ci := 5) (q0 := 0) (wr := []) (ws2 := ([(h0, .inr (5, [.ref h0_least, .ref h0_most])), (h0_least, .inl (cy 5, 41, gO 41 rh0_least)), (h0_most, .inl (cy 5, 41, gO 41 rh0_most)), (g1, .inr (0, [.int w1_parts, og1_1, og1_2, og1_3, og1_4, og1_5, og1_6, .ref g1_rate, .ref g1_near, og1_9, og1_10, og1_11, og1_12])), (g1_rate, .inl (cy 2, 7, .inl w1_rate)), (g1_near, .inl (cy 2, 7, .inl w1_near))] ++ (gW rh0_least 41 7 (cy 2) v_least_15 ++ gW rh0_most 41 7 (cy 2) v_most_15))) hx hb hml hown hts (c5_layDay l D cy N rh0_least rh0_most h0 h0_least h0_most g1 g1_rate g1_near og1_1 og1_2 og1_3 og1_4 og1_5 og1_6 og1_9 og1_10 og1_11 og1_12 p3 x5_3 v_least_3 v_most_3 w1_parts w1_rate w1_near v_least_15 v_most_15 hc15) (cwV 3 hts gX5_daysReaching_X5_layDay rfl rfl rfl (by decide +kernel) ⟨Nat.le_of_ble_eq_true rfl, Nat.le_of_ble_eq_true rfl⟩) hK hP hD hS hA rfl rfl (pm_P (pm_x [0, 1, 2, 3, 4, 5] rfl rfl)) (pm_P (pm_x [0, 1, 2, 3, 4, 5] rfl rfl)).symm rfl rfl hl.1 (Nat.le_of_ble_eq_true rfl) dX5_daysReaching_15 ⟨Nat.zero_le _, Nat.zero_le _⟩ (fun H locs hP hD hS => ?_)
        refine lv_aload_n hx hb dX5_daysReaching_18 rfl (lv_at hl 0 rfl) ?_
        refine lv_iload hx hb dX5_daysReaching_19 (lv_at hl 5 rfl) ?_
        refine lv_iload_n hx hb dX5_daysReaching_21 rfl (lv_at hl 2 rfl) ?_
        obtain ⟨r22, hc22, hM⟩ := ob1_some hM
        refine cg_vi (As := [.int x5_3, .int p2]) (rest := []) (ci := 5) (q0 := 0) (wr := [(g1, .inr (0, [.int w1_parts, og1_1, og1_2, og1_3, og1_4, og1_5, og1_6, .ref g1_rate, .ref g1_near, og1_9, og1_10, og1_11, og1_12])), (g1_rate, .inl (cy 2, 7, .inl w1_rate)), (g1_near, .inl (cy 2, 7, .inl w1_near))]) (ws2 := ([(h0, .inr (5, [.ref h0_least, .ref h0_most])), (h0_least, .inl (cy 5, 41, gO 41 rh0_least)), (h0_most, .inl (cy 5, 41, gO 41 rh0_most)), (g1, .inr (0, [.int w1_parts, og1_1, og1_2, og1_3, og1_4, og1_5, og1_6, .ref g1_rate, .ref g1_near, og1_9, og1_10, og1_11, og1_12])), (g1_rate, .inl (cy 2, 7, .inl w1_rate)), (g1_near, .inl (cy 2, 7, .inl w1_near))] ++ (gW rh0_least 41 7 (cy 2) v_least_15 ++ gW rh0_most 41 7 (cy 2) v_most_15))) hx hb hml hown hts (c5_mostTime l D cy N rh0_least rh0_most h0 h0_least h0_most (.ref h0_least) x5_3 p2 v_least_15 v_most_15 r22 hc22) (cwV 2 hts gX5_daysReaching_X5_mostTime rfl rfl rfl (by decide +kernel) ⟨Nat.le_of_ble_eq_true rfl, Nat.le_of_ble_eq_true rfl⟩) hK hP hD hS hA rfl rfl (pm_P (pm_x [3, 4, 5, 0, 1, 2] rfl rfl)) (pm_P (pm_x [3, 4, 5, 0, 1, 2] rfl rfl)).symm rfl rfl hl.1 (Nat.le_of_ble_eq_true rfl) dX5_daysReaching_22 ⟨Nat.zero_le _, Nat.zero_le _⟩ (fun H locs hP hD hS => ?_)
        refine lv_iconst (v := 0) hx hb dX5_daysReaching_25 (by decide) ?_
        refine lv_iload hx hb dX5_daysReaching_26 (lv_at hl 4 rfl) ?_
        refine va_mmax hx hb (hml.trans hl.1.symm) hown k31 ks31 kmath kc31 (Nat.le_of_ble_eq_true rfl) (Nat.le_of_ble_eq_true rfl) (Nat.zero_le _) (Nat.zero_le _) dX5_daysReaching_28 ?_
        refine lv_icmp_lt (tgt := 37) hx hb dX5_daysReaching_31 (by decide) (fun c31 => ?_) (fun c31 => ?_)
        · have hM := g_pos c31 hM
          refine lv_iinc (v := x5_3 + (1 : Int32)) (lv' := [(5, .int (x5_3 + (1 : Int32))), (0, .ref h0), (1, .ref g1), (2, .int p2), (3, .int p3), (4, .int p4)]) hx hb dX5_daysReaching_37 hl (k := 5) rfl rfl (by decide) rfl (fun ls hl => ?_)
          refine lv_goto (tgt := 3) hx hb dX5_daysReaching_40 (by decide) ?_
          exact ih (x5_3 + (1 : Int32)) v_least_15 v_most_15 _ _ _ hM hP hD hS (lv_sub hl [1, 2, 3, 4, 5, 0] rfl)
        · have hM := g_neg c31 hM
          refine lv_iload hx hb dX5_daysReaching_34 (lv_at hl 5 rfl) ?_
          obtain ⟨rfl, rfl, rfl⟩ := si3 hM
          exact hret _ _ _ _ _ dX5_daysReaching_36 rfl rfl hP hD hS
  exact L3 N (1 : Int32) v_least v_most _ _ _ hM hP hD hS (lv_sub hl [1, 2, 3, 4, 5, 0] rfl)
