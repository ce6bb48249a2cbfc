-- ===== X1_firstMaking firstMaking (LCaveYears$Cave;III)I =====
abbrev r1_firstMaking : Room := { frames := 3, cells := 0, slots := 0, locals := 65 }
def f1_firstMaking_L3 (N : Nat) (p2 : Int32) (p3 : Int32) (p4 : Int32) (v_times : Nat → Nat → Int64) (w1_parts : Int32) (w1_near : Nat → Int32) : Nat → Int32 → Option Int32
  | 0, _ => none
  | n + 1, x5_3 => if (7 : Int32) ≤ x5_3 then (some (-1 : Int32)) else (ob1 (f0_mayFollow N p2 x5_3 w1_parts w1_near) fun r14 => if r14 = (0 : Int32) then ((f1_firstMaking_L3 N p2 p3 p4 v_times w1_parts w1_near n) (x5_3 + (1 : Int32))) else (ob1 (f1_canMake N p3 x5_3 p4 v_times) fun r26 => if r26 = (0 : Int32) then ((f1_firstMaking_L3 N p2 p3 p4 v_times w1_parts w1_near n) (x5_3 + (1 : Int32))) else (some x5_3)))
def f1_firstMaking (N : Nat) (p2 : Int32) (p3 : Int32) (p4 : Int32) (v_times : Nat → Nat → Int64) (w1_parts : Int32) (w1_near : Nat → Int32) : Option Int32 :=
  f1_firstMaking_L3 N p2 p3 p4 v_times w1_parts w1_near N (0 : Int32)
set_option maxHeartbeats 4000000 in
set_option maxRecDepth 100000 in
theorem c1_firstMaking (l : Launch) (D : va_G) (cy : Nat → ClassId) (N : Nat) (rh0_times : Nat → Nat) (h0 h0_times g1 g1_near : Nat) (oh0_1 og1_1 og1_2 og1_3 og1_4 og1_5 og1_6 og1_7 og1_9 og1_10 og1_11 og1_12 : Value) (p2 : Int32) (p3 : Int32) (p4 : Int32) (v_times : Nat → Nat → Int64) (w1_parts : Int32) (w1_near : Nat → Int32) (r : Int32) (hM : f1_firstMaking N p2 p3 p4 v_times w1_parts w1_near = some r) (sz : Nat) : CTi l yX1_firstMaking wsX1_firstMaking r1_firstMaking [.ref h0, .ref g1, .int p2, .int p3, .int p4] D cy sz ([(h0, .inr (1, [.ref h0_times, oh0_1])), (h0_times, .inl (cy 6, 287, gO 287 rh0_times)), (g1, .inr (0, [.int w1_parts, og1_1, og1_2, og1_3, og1_4, og1_5, og1_6, og1_7, .ref g1_near, og1_9, og1_10, og1_11, og1_12])), (g1_near, .inl (cy 2, 7, .inl w1_near))] ++ (gWL rh0_times 287 94 (cy 3) v_times)) ([(h0, .inr (1, [.ref h0_times, oh0_1])), (h0_times, .inl (cy 6, 287, gO 287 rh0_times)), (g1, .inr (0, [.int w1_parts, og1_1, og1_2, og1_3, og1_4, og1_5, og1_6, og1_7, .ref g1_near, og1_9, og1_10, og1_11, og1_12])), (g1_near, .inl (cy 2, 7, .inl w1_near))] ++ (gWL rh0_times 287 94 (cy 3) v_times)) r := by
  unfold f1_firstMaking at hM
  refine ct_oi (cc := cX1_firstMaking) (maxL := 6) (ty := .int) (by decide +kernel) rfl (Nat.le_of_ble_eq_true rfl) (lv0 := [(0, .ref h0), (1, .ref g1), (2, .int p2), (3, .int p3), (4, .int p4)]) rfl ?_
  intro p e s m args below meth c A Q ls hx hb hts hown hml hK hP hD hS hA hret hl
  have hown : s.vm.findClass RX1 = some m.cls := hown
  refine lv_iconst (v := 0) hx hb dX1_firstMaking_0 (by decide) ?_
  refine lv_istore (lv' := [(5, .int (0 : Int32)), (0, .ref h0), (1, .ref g1), (2, .int p2), (3, .int p3), (4, .int p4)]) hx hb dX1_firstMaking_1 hl (by decide) rfl (fun ls hl => ?_)
  have L3 : ∀ (n : Nat) (x5_3 : Int32) (H : Heap) (locs : List Loc) (ls : Array Slot), f1_firstMaking_L3 N p2 p3 p4 v_times w1_parts w1_near n x5_3 = some r → va_P D vwCl ([(h0, .inr (1, [.ref h0_times, oh0_1])), (h0_times, .inl (cy 6, 287, gO 287 rh0_times)), (g1, .inr (0, [.int w1_parts, og1_1, og1_2, og1_3, og1_4, og1_5, og1_6, og1_7, .ref g1_near, og1_9, og1_10, og1_11, og1_12])), (g1_near, .inl (cy 2, 7, .inl w1_near))] ++ (gWL rh0_times 287 94 (cy 3) v_times)) H → va_D A ([(h0, .inr (1, [.ref h0_times, oh0_1])), (h0_times, .inl (cy 6, 287, gO 287 rh0_times)), (g1, .inr (0, [.int w1_parts, og1_1, og1_2, og1_3, og1_4, og1_5, og1_6, og1_7, .ref g1_near, og1_9, og1_10, og1_11, og1_12])), (g1_near, .inl (cy 2, 7, .inl w1_near))] ++ (gWL rh0_times 287 94 (cy 3) v_times)) → va_S A s.heap H locs → lv_has ls 6 [(0, .ref h0), (1, .ref g1), (2, .int p2), (3, .int p3), (4, .int p4), (5, .int x5_3)] → W p l e r1_firstMaking s m args below meth c H locs 0 0 Q (F0 m 3 ls []) := by
    intro n
    induction n with
    | zero =>
      intro x5_3 H locs ls hM
      exact absurd hM (by simp [f1_firstMaking_L3])
    | succ n ih =>
      intro x5_3 H locs ls hM hP hD hS hl
      rw [f1_firstMaking_L3] at hM
      refine lv_iload hx hb dX1_firstMaking_3 (lv_at hl 5 rfl) ?_
      refine lv_bipush (v := 7) hx hb dX1_firstMaking_5 (by decide) ?_
      refine lv_icmp_ge (tgt := 41) hx hb dX1_firstMaking_7 (by decide) (fun c7 => ?_) (fun c7 => ?_)
      · have hM := g_pos c7 hM
        refine lv_iconst (v := -1) hx hb dX1_firstMaking_41 (by decide) ?_
        obtain rfl := si1 hM
        exact hret _ _ _ _ _ dX1_firstMaking_42 rfl rfl hP hD hS
      · have hM := g_neg c7 hM
        refine lv_aload_n hx hb dX1_firstMaking_10 rfl (lv_at hl 1 rfl) ?_
        refine lv_iload_n hx hb dX1_firstMaking_11 rfl (lv_at hl 2 rfl) ?_
        refine lv_iload hx hb dX1_firstMaking_12 (lv_at hl 5 rfl) ?_
        obtain ⟨r14, hc14, hM⟩ := ob1_some hM
        refine cg_vi (As := [.int p2, .int x5_3]) (rest := []) (ci := 0) (q0 := 2) (wr := ([(h0, .inr (1, [.ref h0_times, oh0_1])), (h0_times, .inl (cy 6, 287, gO 287 rh0_times))] ++ (gWL rh0_times 287 94 (cy 3) v_times))) (ws2 := ([(h0, .inr (1, [.ref h0_times, oh0_1])), (h0_times, .inl (cy 6, 287, gO 287 rh0_times)), (g1, .inr (0, [.int w1_parts, og1_1, og1_2, og1_3, og1_4, og1_5, og1_6, og1_7, .ref g1_near, og1_9, og1_10, og1_11, og1_12])), (g1_near, .inl (cy 2, 7, .inl w1_near))] ++ (gWL rh0_times 287 94 (cy 3) v_times))) hx hb hml hown hts (c0_mayFollow l D cy N g1 g1_near og1_1 og1_2 og1_3 og1_4 og1_5 og1_6 og1_7 og1_9 og1_10 og1_11 og1_12 p2 x5_3 w1_parts w1_near r14 hc14) (cwV 2 hts gX1_firstMaking_X0_mayFollow rfl rfl rfl (by decide +kernel) ⟨Nat.le_of_ble_eq_true rfl, Nat.le_of_ble_eq_true rfl⟩) hK hP hD hS hA rfl rfl (pm_Q (pm_x [0, 1, 2, 3] rfl rfl)) (pm_Q (pm_x [0, 1, 2, 3] rfl rfl)).symm rfl rfl hl.1 (Nat.le_of_ble_eq_true rfl) dX1_firstMaking_14 ⟨Nat.zero_le _, Nat.zero_le _⟩ (fun H locs hP hD hS => ?_)
        refine lv_if_eq (tgt := 35) hx hb dX1_firstMaking_17 (by decide) (fun c17 => ?_) (fun c17 => ?_)
        · have hM := g_pos c17 hM
          refine lv_iinc (v := x5_3 + (1 : Int32)) (lv' := [(5, .int (x5_3 + (1 : Int32))), (0, .ref h0), (1, .ref g1), (2, .int p2), (3, .int p3), (4, .int p4)]) hx hb dX1_firstMaking_35 hl (k := 5) rfl rfl (by decide) rfl (fun ls hl => ?_)
          refine lv_goto (tgt := 3) hx hb dX1_firstMaking_38 (by decide) ?_
          exact ih (x5_3 + (1 : Int32)) _ _ _ hM hP hD hS (lv_sub hl [1, 2, 3, 4, 5, 0] rfl)
        · have hM := g_neg c17 hM
          refine lv_aload_n hx hb dX1_firstMaking_20 rfl (lv_at hl 0 rfl) ?_
          refine lv_iload_n hx hb dX1_firstMaking_21 rfl (lv_at hl 3 rfl) ?_
          refine lv_iload hx hb dX1_firstMaking_22 (lv_at hl 5 rfl) ?_
          refine lv_iload hx hb dX1_firstMaking_24 (lv_at hl 4 rfl) ?_
          obtain ⟨r26, hc26, hM⟩ := ob1_some hM
          refine cg_vi (As := [.int p3, .int x5_3, .int p4]) (rest := []) (ci := 1) (q0 := 0) (wr := [(g1, .inr (0, [.int w1_parts, og1_1, og1_2, og1_3, og1_4, og1_5, og1_6, og1_7, .ref g1_near, og1_9, og1_10, og1_11, og1_12])), (g1_near, .inl (cy 2, 7, .inl w1_near))]) (ws2 := ([(h0, .inr (1, [.ref h0_times, oh0_1])), (h0_times, .inl (cy 6, 287, gO 287 rh0_times)), (g1, .inr (0, [.int w1_parts, og1_1, og1_2, og1_3, og1_4, og1_5, og1_6, og1_7, .ref g1_near, og1_9, og1_10, og1_11, og1_12])), (g1_near, .inl (cy 2, 7, .inl w1_near))] ++ (gWL rh0_times 287 94 (cy 3) v_times))) hx hb hml hown hts (c1_canMake l D cy N rh0_times h0 h0_times oh0_1 p3 x5_3 p4 v_times r26 hc26) (cwV 3 hts gX1_firstMaking_X1_canMake rfl rfl rfl (by decide +kernel) ⟨Nat.le_of_ble_eq_true rfl, Nat.le_of_ble_eq_true rfl⟩) hK hP hD hS hA rfl rfl (pm_P (pm_x [2, 3, 0, 1] rfl rfl)) (pm_P (pm_x [2, 3, 0, 1] rfl rfl)).symm rfl rfl hl.1 (Nat.le_of_ble_eq_true rfl) dX1_firstMaking_26 ⟨Nat.zero_le _, Nat.zero_le _⟩ (fun H locs hP hD hS => ?_)
          refine lv_if_eq (tgt := 35) hx hb dX1_firstMaking_29 (by decide) (fun c29 => ?_) (fun c29 => ?_)
          · have hM := g_pos c29 hM
            refine lv_iinc (v := x5_3 + (1 : Int32)) (lv' := [(5, .int (x5_3 + (1 : Int32))), (0, .ref h0), (1, .ref g1), (2, .int p2), (3, .int p3), (4, .int p4)]) hx hb dX1_firstMaking_35 hl (k := 5) rfl rfl (by decide) rfl (fun ls hl => ?_)
            refine lv_goto (tgt := 3) hx hb dX1_firstMaking_38 (by decide) ?_
            exact ih (x5_3 + (1 : Int32)) _ _ _ hM hP hD hS (lv_sub hl [1, 2, 3, 4, 5, 0] rfl)
          · have hM := g_neg c29 hM
            refine lv_iload hx hb dX1_firstMaking_32 (lv_at hl 5 rfl) ?_
            obtain rfl := si1 hM
            exact hret _ _ _ _ _ dX1_firstMaking_34 rfl rfl hP hD hS
  exact L3 N (0 : Int32) _ _ _ hM hP hD hS (lv_sub hl [1, 2, 3, 4, 5, 0] rfl)
