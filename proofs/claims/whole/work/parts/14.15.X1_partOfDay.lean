-- ===== X1_partOfDay partOfDay (LCaveYears$Cave;IIII)I =====
abbrev r1_partOfDay : Room := { frames := 4, cells := 0, slots := 0, locals := 90 }
def f1_partOfDay_L9 (N : Nat) (p4 : Int32) (p5 : Int32) (v_times : Nat → Nat → Int64) (w1_parts : Int32) (w1_rate : Nat → Int32) (w1_near : Nat → Int32) : Nat → Int32 → Int32 → Int32 → Option Int32
  | 0, _, _, _ => none
  | n + 1, x6_9, x7_9, x8_9 => if p5 ≤ x8_9 then (some x6_9) else (if (40 : Int32) ≤ x8_9 then (some x6_9) else (ob1 (f0_rateOf N x6_9 w1_parts w1_rate) fun r28 => ob1 (f1_firstMaking N x6_9 ((p4 - (1 : Int32)) - x8_9) (x7_9 - r28) v_times w1_parts w1_near) fun r47 => (f1_partOfDay_L9 N p4 p5 v_times w1_parts w1_rate w1_near n) r47 (x7_9 - r28) (x8_9 + (1 : Int32))))
def f1_partOfDay (N : Nat) (p2 : Int32) (p3 : Int32) (p4 : Int32) (p5 : Int32) (v_times : Nat → Nat → Int64) (w1_parts : Int32) (w1_rate : Nat → Int32) (w1_near : Nat → Int32) : Option Int32 :=
  ob1 (f1_partOfDay_L9 N p4 p5 v_times w1_parts w1_rate w1_near N p2 p3 (0 : Int32)) fun e6_9 => some e6_9
set_option maxHeartbeats 4000000 in
set_option maxRecDepth 100000 in
theorem c1_partOfDay (l : Launch) (D : va_G) (cy : Nat → ClassId) (N : Nat) (rh0_times : Nat → Nat) (h0 h0_times g1 g1_rate g1_near : Nat) (oh0_1 og1_1 og1_2 og1_3 og1_4 og1_5 og1_6 og1_9 og1_10 og1_11 og1_12 : Value) (p2 : Int32) (p3 : Int32) (p4 : Int32) (p5 : Int32) (v_times : Nat → Nat → Int64) (w1_parts : Int32) (w1_rate : Nat → Int32) (w1_near : Nat → Int32) (r : Int32) (hM : f1_partOfDay N p2 p3 p4 p5 v_times w1_parts w1_rate w1_near = some r) (sz : Nat) : CTi l yX1_partOfDay wsX1_partOfDay r1_partOfDay [.ref h0, .ref g1, .int p2, .int p3, .int p4, .int p5] D cy sz ([(h0, .inr (1, [.ref h0_times, oh0_1])), (h0_times, .inl (cy 6, 287, gO 287 rh0_times)), (g1, .inr (0, [.int w1_parts, og1_1, og1_2, og1_3, og1_4, og1_5, og1_6, .ref g1_rate, .ref g1_near, og1_9, og1_10, og1_11, og1_12])), (g1_rate, .inl (cy 2, 7, .inl w1_rate)), (g1_near, .inl (cy 2, 7, .inl w1_near))] ++ (gWL rh0_times 287 94 (cy 3) v_times)) ([(h0, .inr (1, [.ref h0_times, oh0_1])), (h0_times, .inl (cy 6, 287, gO 287 rh0_times)), (g1, .inr (0, [.int w1_parts, og1_1, og1_2, og1_3, og1_4, og1_5, og1_6, .ref g1_rate, .ref g1_near, og1_9, og1_10, og1_11, og1_12])), (g1_rate, .inl (cy 2, 7, .inl w1_rate)), (g1_near, .inl (cy 2, 7, .inl w1_near))] ++ (gWL rh0_times 287 94 (cy 3) v_times)) r := by
  unfold f1_partOfDay at hM
  refine ct_oi (cc := cX1_partOfDay) (maxL := 9) (ty := .int) (by decide +kernel) rfl (Nat.le_of_ble_eq_true rfl) (lv0 := [(0, .ref h0), (1, .ref g1), (2, .int p2), (3, .int p3), (4, .int p4), (5, .int p5)]) rfl ?_
  intro p e s m args below meth c A Q ls hx hb hts hown hml hK hP hD hS hA hret hl
  have hown : s.vm.findClass RX1 = some m.cls := hown
  refine lv_iload_n hx hb dX1_partOfDay_0 rfl (lv_at hl 2 rfl) ?_
  refine lv_istore (lv' := [(6, .int p2), (0, .ref h0), (1, .ref g1), (2, .int p2), (3, .int p3), (4, .int p4), (5, .int p5)]) hx hb dX1_partOfDay_1 hl (by decide) rfl (fun ls hl => ?_)
  refine lv_iload_n hx hb dX1_partOfDay_3 rfl (lv_at hl 4 rfl) ?_
  refine lv_istore (lv' := [(7, .int p3), (6, .int p2), (0, .ref h0), (1, .ref g1), (2, .int p2), (3, .int p3), (4, .int p4), (5, .int p5)]) hx hb dX1_partOfDay_4 hl (by decide) rfl (fun ls hl => ?_)
  refine lv_iconst (v := 0) hx hb dX1_partOfDay_6 (by decide) ?_
  refine lv_istore (lv' := [(8, .int (0 : Int32)), (7, .int p3), (6, .int p2), (0, .ref h0), (1, .ref g1), (2, .int p2), (3, .int p3), (4, .int p4), (5, .int p5)]) hx hb dX1_partOfDay_7 hl (by decide) rfl (fun ls hl => ?_)
  have L9 : ∀ (n : Nat) (x6_9 : Int32) (x7_9 : Int32) (x8_9 : Int32) (e6_9 : Int32) (H : Heap) (locs : List Loc) (ls : Array Slot), f1_partOfDay_L9 N p4 p5 v_times w1_parts w1_rate w1_near n x6_9 x7_9 x8_9 = some e6_9 → va_P D vwCl ([(h0, .inr (1, [.ref h0_times, oh0_1])), (h0_times, .inl (cy 6, 287, gO 287 rh0_times)), (g1, .inr (0, [.int w1_parts, og1_1, og1_2, og1_3, og1_4, og1_5, og1_6, .ref g1_rate, .ref g1_near, og1_9, og1_10, og1_11, og1_12])), (g1_rate, .inl (cy 2, 7, .inl w1_rate)), (g1_near, .inl (cy 2, 7, .inl w1_near))] ++ (gWL rh0_times 287 94 (cy 3) v_times)) H → va_D A ([(h0, .inr (1, [.ref h0_times, oh0_1])), (h0_times, .inl (cy 6, 287, gO 287 rh0_times)), (g1, .inr (0, [.int w1_parts, og1_1, og1_2, og1_3, og1_4, og1_5, og1_6, .ref g1_rate, .ref g1_near, og1_9, og1_10, og1_11, og1_12])), (g1_rate, .inl (cy 2, 7, .inl w1_rate)), (g1_near, .inl (cy 2, 7, .inl w1_near))] ++ (gWL rh0_times 287 94 (cy 3) v_times)) → va_S A s.heap H locs → lv_has ls 9 [(0, .ref h0), (1, .ref g1), (4, .int p4), (5, .int p5), (6, .int x6_9), (7, .int x7_9), (8, .int x8_9)] → (∀ (H : Heap) (locs : List Loc) (ls : Array Slot), va_P D vwCl ([(h0, .inr (1, [.ref h0_times, oh0_1])), (h0_times, .inl (cy 6, 287, gO 287 rh0_times)), (g1, .inr (0, [.int w1_parts, og1_1, og1_2, og1_3, og1_4, og1_5, og1_6, .ref g1_rate, .ref g1_near, og1_9, og1_10, og1_11, og1_12])), (g1_rate, .inl (cy 2, 7, .inl w1_rate)), (g1_near, .inl (cy 2, 7, .inl w1_near))] ++ (gWL rh0_times 287 94 (cy 3) v_times)) H → va_D A ([(h0, .inr (1, [.ref h0_times, oh0_1])), (h0_times, .inl (cy 6, 287, gO 287 rh0_times)), (g1, .inr (0, [.int w1_parts, og1_1, og1_2, og1_3, og1_4, og1_5, og1_6, .ref g1_rate, .ref g1_near, og1_9, og1_10, og1_11, og1_12])), (g1_rate, .inl (cy 2, 7, .inl w1_rate)), (g1_near, .inl (cy 2, 7, .inl w1_near))] ++ (gWL rh0_times 287 94 (cy 3) v_times)) → va_S A s.heap H locs → lv_has ls 9 [(6, .int e6_9)] → W p l e r1_partOfDay s m args below meth c H locs 0 0 Q (F0 m 58 ls [])) → W p l e r1_partOfDay s m args below meth c H locs 0 0 Q (F0 m 9 ls []) := by
    intro n
    induction n with
    | zero =>
      intro x6_9 x7_9 x8_9 e6_9 H locs ls hM
      exact absurd hM (by simp [f1_partOfDay_L9])
    | succ n ih =>
      intro x6_9 x7_9 x8_9 e6_9 H locs ls hM hP hD hS hl K
      rw [f1_partOfDay_L9] at hM
      refine lv_iload hx hb dX1_partOfDay_9 (lv_at hl 6 rfl) ?_
      refine lv_iload hx hb dX1_partOfDay_11 (lv_at hl 3 rfl) ?_
      refine lv_icmp_ge (tgt := 58) hx hb dX1_partOfDay_13 (by decide) (fun c13 => ?_) (fun c13 => ?_)
      · have hM := g_pos c13 hM
        obtain rfl := si1 hM
        exact K _ _ _ hP hD hS (lv_sub hl [4] rfl)
      · have hM := g_neg c13 hM
        refine lv_iload hx hb dX1_partOfDay_16 (lv_at hl 6 rfl) ?_
        refine lv_bipush (v := 40) hx hb dX1_partOfDay_18 (by decide) ?_
        refine lv_icmp_ge (tgt := 58) hx hb dX1_partOfDay_20 (by decide) (fun c20 => ?_) (fun c20 => ?_)
        · have hM := g_pos c20 hM
          obtain rfl := si1 hM
          exact K _ _ _ hP hD hS (lv_sub hl [4] rfl)
        · have hM := g_neg c20 hM
          refine lv_iload hx hb dX1_partOfDay_23 (lv_at hl 5 rfl) ?_
          refine lv_aload_n hx hb dX1_partOfDay_25 rfl (lv_at hl 1 rfl) ?_
          refine lv_iload hx hb dX1_partOfDay_26 (lv_at hl 4 rfl) ?_
          obtain ⟨r28, hc28, hM⟩ := ob1_some hM
          refine cg_vi (As := [.int x6_9]) (rest := [.int x7_9]) (ci := 0) (q0 := 2) (wr := ([(h0, .inr (1, [.ref h0_times, oh0_1])), (h0_times, .inl (cy 6, 287, gO 287 rh0_times)), (g1_near, .inl (cy 2, 7, .inl w1_near))] ++ (gWL rh0_times 287 94 (cy 3) v_times))) (ws2 := ([(h0, .inr (1, [.ref h0_times, oh0_1])), (h0_times, .inl (cy 6, 287, gO 287 rh0_times)), (g1, .inr (0, [.int w1_parts, og1_1, og1_2, og1_3, og1_4, og1_5, og1_6, .ref g1_rate, .ref g1_near, og1_9, og1_10, og1_11, og1_12])), (g1_rate, .inl (cy 2, 7, .inl w1_rate)), (g1_near, .inl (cy 2, 7, .inl w1_near))] ++ (gWL rh0_times 287 94 (cy 3) v_times))) hx hb hml hown hts (c0_rateOf l D cy N g1 g1_rate og1_1 og1_2 og1_3 og1_4 og1_5 og1_6 (.ref g1_near) og1_9 og1_10 og1_11 og1_12 x6_9 w1_parts w1_rate r28 hc28) (cwV 1 hts gX1_partOfDay_X0_rateOf rfl rfl rfl (by decide +kernel) ⟨Nat.le_of_ble_eq_true rfl, Nat.le_of_ble_eq_true rfl⟩) hK hP hD hS hA rfl rfl (pm_Q (pm_x [0, 1, 4, 2, 3] rfl rfl)) (pm_Q (pm_x [0, 1, 4, 2, 3] rfl rfl)).symm rfl rfl hl.1 (Nat.le_of_ble_eq_true rfl) dX1_partOfDay_28 ⟨Nat.zero_le _, Nat.zero_le _⟩ (fun H locs hP hD hS => ?_)
          refine lv_isub hx hb dX1_partOfDay_31 ?_
          refine lv_istore (lv' := [(7, .int (x7_9 - r28)), (0, .ref h0), (1, .ref g1), (4, .int p4), (5, .int p5), (6, .int x6_9), (8, .int x8_9)]) hx hb dX1_partOfDay_32 hl (by decide) rfl (fun ls hl => ?_)
          refine lv_aload_n hx hb dX1_partOfDay_34 rfl (lv_at hl 1 rfl) ?_
          refine lv_aload_n hx hb dX1_partOfDay_35 rfl (lv_at hl 2 rfl) ?_
          refine lv_iload hx hb dX1_partOfDay_36 (lv_at hl 5 rfl) ?_
          refine lv_iload hx hb dX1_partOfDay_38 (lv_at hl 3 rfl) ?_
          refine lv_iconst (v := 1) hx hb dX1_partOfDay_40 (by decide) ?_
          refine lv_isub hx hb dX1_partOfDay_41 ?_
          refine lv_iload hx hb dX1_partOfDay_42 (lv_at hl 6 rfl) ?_
          refine lv_isub hx hb dX1_partOfDay_44 ?_
          refine lv_iload hx hb dX1_partOfDay_45 (lv_at hl 0 rfl) ?_
          obtain ⟨r47, hc47, hM⟩ := ob1_some hM
          refine cg_vi (As := [.ref g1, .int x6_9, .int ((p4 - (1 : Int32)) - x8_9), .int (x7_9 - r28)]) (rest := []) (ci := 1) (q0 := 0) (wr := [(g1_rate, .inl (cy 2, 7, .inl w1_rate))]) (ws2 := ([(h0, .inr (1, [.ref h0_times, oh0_1])), (h0_times, .inl (cy 6, 287, gO 287 rh0_times)), (g1, .inr (0, [.int w1_parts, og1_1, og1_2, og1_3, og1_4, og1_5, og1_6, .ref g1_rate, .ref g1_near, og1_9, og1_10, og1_11, og1_12])), (g1_rate, .inl (cy 2, 7, .inl w1_rate)), (g1_near, .inl (cy 2, 7, .inl w1_near))] ++ (gWL rh0_times 287 94 (cy 3) v_times))) hx hb hml hown hts (c1_firstMaking l D cy N rh0_times h0 h0_times g1 g1_near oh0_1 og1_1 og1_2 og1_3 og1_4 og1_5 og1_6 (.ref g1_rate) og1_9 og1_10 og1_11 og1_12 x6_9 ((p4 - (1 : Int32)) - x8_9) (x7_9 - r28) v_times w1_parts w1_near r47 hc47) (cwV 4 hts gX1_partOfDay_X1_firstMaking rfl rfl rfl (by decide +kernel) ⟨Nat.le_of_ble_eq_true rfl, Nat.le_of_ble_eq_true rfl⟩) hK hP hD hS hA rfl rfl (pm_P (pm_x [3, 0, 1, 2, 4] rfl rfl)) (pm_P (pm_x [3, 0, 1, 2, 4] rfl rfl)).symm rfl rfl hl.1 (Nat.le_of_ble_eq_true rfl) dX1_partOfDay_47 ⟨Nat.zero_le _, Nat.zero_le _⟩ (fun H locs hP hD hS => ?_)
          refine lv_istore (lv' := [(6, .int r47), (7, .int (x7_9 - r28)), (0, .ref h0), (1, .ref g1), (4, .int p4), (5, .int p5), (8, .int x8_9)]) hx hb dX1_partOfDay_50 hl (by decide) rfl (fun ls hl => ?_)
          refine lv_iinc (v := x8_9 + (1 : Int32)) (lv' := [(8, .int (x8_9 + (1 : Int32))), (6, .int r47), (7, .int (x7_9 - r28)), (0, .ref h0), (1, .ref g1), (4, .int p4), (5, .int p5)]) hx hb dX1_partOfDay_52 hl (k := 6) rfl rfl (by decide) rfl (fun ls hl => ?_)
          refine lv_goto (tgt := 9) hx hb dX1_partOfDay_55 (by decide) ?_
          exact ih r47 (x7_9 - r28) (x8_9 + (1 : Int32)) e6_9 _ _ _ hM hP hD hS (lv_sub hl [3, 4, 5, 6, 1, 2, 0] rfl) K
  obtain ⟨e6_9, hL9, hM⟩ := ob1_some hM
  refine L9 N p2 p3 (0 : Int32) e6_9 _ _ _ hL9 hP hD hS (lv_sub hl [3, 4, 7, 8, 2, 1, 0] rfl) ?_
  intro H locs ls hP hD hS hl
  refine lv_iload hx hb dX1_partOfDay_58 (lv_at hl 0 rfl) ?_
  obtain rfl := si1 hM
  exact hret _ _ _ _ _ dX1_partOfDay_60 rfl rfl hP hD hS
