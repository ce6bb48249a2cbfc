-- ===== X1_daysMaking daysMaking (LCaveYears$Cave;III)I =====
abbrev r1_daysMaking : Room := { frames := 4, cells := 0, slots := 0, locals := 93 }
def f1_daysMaking_L27 (N : Nat) (p3 : Int32) (p4 : Int32) (w1_parts : Int32) (w1_rate : Nat → Int32) (w1_near : Nat → Int32) (x6_17 : Int32) : Nat → Int32 → (Nat → Nat → Int64) → (Nat → Int64) → Option ((Nat → Nat → Int64) × (Nat → Int64))
  | 0, _, _, _ => none
  | n + 1, x7_27, v_times_27, v_rest_27 => if (7 : Int32) ≤ x7_27 then (some (v_times_27, v_rest_27)) else (ob1 (f0_hasPart N x7_27 w1_parts) fun r37 => if r37 = (0 : Int32) then ((f1_daysMaking_L27 N p3 p4 w1_parts w1_rate w1_near x6_17 n) (x7_27 + (1 : Int32)) v_times_27 v_rest_27) else (ob1 (f1_layRest N p3 x6_17 x7_27 (if ((p4 / (64 : Int32)) + (1 : Int32)) < (94 : Int32) then ((p4 / (64 : Int32)) + (1 : Int32)) else (94 : Int32)) v_times_27 v_rest_27 w1_parts w1_near) fun v_rest_52 => ob1 (f0_rateOf N x7_27 w1_parts w1_rate) fun r63 => ob1 (f1_layShifted N x6_17 x7_27 r63 (if ((p4 / (64 : Int32)) + (1 : Int32)) < (94 : Int32) then ((p4 / (64 : Int32)) + (1 : Int32)) else (94 : Int32)) v_times_27 v_rest_52) fun v_times_68 => (f1_daysMaking_L27 N p3 p4 w1_parts w1_rate w1_near x6_17 n) (x7_27 + (1 : Int32)) v_times_68 v_rest_52))
def f1_daysMaking_L17 (N : Nat) (p2 : Int32) (p3 : Int32) (p4 : Int32) (w1_parts : Int32) (w1_rate : Nat → Int32) (w1_near : Nat → Int32) : Nat → Int32 → (Nat → Nat → Int64) → (Nat → Int64) → Option (Int32 × (Nat → Nat → Int64) × (Nat → Int64))
  | 0, _, _, _ => none
  | n + 1, x6_17, v_times_17, v_rest_17 => if (40 : Int32) < x6_17 then (some ((-1 : Int32), v_times_17, v_rest_17)) else (ob2 (f1_daysMaking_L27 N p3 p4 w1_parts w1_rate w1_near x6_17 N (0 : Int32) v_times_17 v_rest_17) fun v_times_e27 v_rest_e27 => ob1 (f1_canMake N x6_17 p2 p4 v_times_e27) fun r83 => if r83 = (0 : Int32) then ((f1_daysMaking_L17 N p2 p3 p4 w1_parts w1_rate w1_near n) (x6_17 + (1 : Int32)) v_times_e27 v_rest_e27) else (some (x6_17, v_times_e27, v_rest_e27)))
def f1_daysMaking (N : Nat) (p2 : Int32) (p3 : Int32) (p4 : Int32) (v_times : Nat → Nat → Int64) (v_rest : Nat → Int64) (w1_parts : Int32) (w1_rate : Nat → Int32) (w1_near : Nat → Int32) : Option (Int32 × (Nat → Nat → Int64) × (Nat → Int64)) :=
  f1_daysMaking_L17 N p2 p3 p4 w1_parts w1_rate w1_near N (1 : Int32) v_times v_rest
set_option maxHeartbeats 4000000 in
set_option maxRecDepth 100000 in
theorem c1_daysMaking (l : Launch) (D : va_G) (cy : Nat → ClassId) (N : Nat) (rh0_times : Nat → Nat) (h0 h0_times h0_rest g1 g1_rate g1_near : Nat) (og1_1 og1_2 og1_3 og1_4 og1_5 og1_6 og1_9 og1_10 og1_11 og1_12 : Value) (p2 : Int32) (p3 : Int32) (p4 : Int32) (v_times : Nat → Nat → Int64) (v_rest : Nat → Int64) (w1_parts : Int32) (w1_rate : Nat → Int32) (w1_near : Nat → Int32) (r : Int32) (nv_times : Nat → Nat → Int64) (nv_rest : Nat → Int64) (hM : f1_daysMaking N p2 p3 p4 v_times v_rest w1_parts w1_rate w1_near = some (r, nv_times, nv_rest)) (sz : Nat) : CTi l yX1_daysMaking wsX1_daysMaking r1_daysMaking [.ref h0, .ref g1, .int p2, .int p3, .int p4] D cy sz ([(h0, .inr (1, [.ref h0_times, .ref h0_rest])), (h0_times, .inl (cy 6, 287, gO 287 rh0_times)), (h0_rest, .inl (cy 3, 94, .inr (.inl v_rest))), (g1, .inr (0, [.int w1_parts, og1_1, og1_2, og1_3, og1_4, og1_5, og1_6, .ref g1_rate, .ref g1_near, og1_9, og1_10, og1_11, og1_12])), (g1_rate, .inl (cy 2, 7, .inl w1_rate)), (g1_near, .inl (cy 2, 7, .inl w1_near))] ++ (gWL rh0_times 287 94 (cy 3) v_times)) ([(h0, .inr (1, [.ref h0_times, .ref h0_rest])), (h0_times, .inl (cy 6, 287, gO 287 rh0_times)), (h0_rest, .inl (cy 3, 94, .inr (.inl nv_rest))), (g1, .inr (0, [.int w1_parts, og1_1, og1_2, og1_3, og1_4, og1_5, og1_6, .ref g1_rate, .ref g1_near, og1_9, og1_10, og1_11, og1_12])), (g1_rate, .inl (cy 2, 7, .inl w1_rate)), (g1_near, .inl (cy 2, 7, .inl w1_near))] ++ (gWL rh0_times 287 94 (cy 3) nv_times)) r := by
  unfold f1_daysMaking at hM
  refine ct_oi (cc := cX1_daysMaking) (maxL := 8) (ty := .int) (by decide +kernel) rfl (Nat.le_of_ble_eq_true rfl) (lv0 := [(0, .ref h0), (1, .ref g1), (2, .int p2), (3, .int p3), (4, .int p4)]) rfl ?_
  intro p e s m args below meth c A Q ls hx hb hts hown hml hK hP hD hS hA hret hl
  have hown : s.vm.findClass RX1 = some m.cls := hown
  have k20 := hts (.methodLink RX1 20 Lib.Math.min.name) (List.mem_of_getElem? (i := 1) rfl)
  have ks20 := hts (.static Lib.Math.min.name) (List.mem_of_getElem? (i := 2) rfl)
  have kmath := hts (.initialized "java/lang/Math") (List.mem_of_getElem? (i := 3) rfl)
  have kc20 := hts (.code Lib.Math.min.name Lib.Math.min.code 2 (some .int)) (List.mem_of_getElem? (i := 4) rfl)
  refine lv_bipush (v := 94) hx hb dX1_daysMaking_0 (by decide) ?_
  refine lv_iload hx hb dX1_daysMaking_2 (lv_at hl 4 rfl) ?_
  refine lv_bipush (v := 64) hx hb dX1_daysMaking_4 (by decide) ?_
  refine lv_idiv hx hb dX1_daysMaking_6 (by decide) ?_
  refine lv_iconst (v := 1) hx hb dX1_daysMaking_7 (by decide) ?_
  refine lv_iadd hx hb dX1_daysMaking_8 ?_
  refine va_mmin hx hb (hml.trans hl.1.symm) hown k20 ks20 kmath kc20 (Nat.le_of_ble_eq_true rfl) (Nat.le_of_ble_eq_true rfl) (Nat.zero_le _) (Nat.zero_le _) dX1_daysMaking_9 ?_
  refine lv_istore (lv' := [(5, .int (if ((p4 / (64 : Int32)) + (1 : Int32)) < (94 : Int32) then ((p4 / (64 : Int32)) + (1 : Int32)) else (94 : Int32))), (0, .ref h0), (1, .ref g1), (2, .int p2), (3, .int p3), (4, .int p4)]) hx hb dX1_daysMaking_12 hl (by decide) rfl (fun ls hl => ?_)
  refine lv_iconst (v := 1) hx hb dX1_daysMaking_14 (by decide) ?_
  refine lv_istore (lv' := [(6, .int (1 : Int32)), (5, .int (if ((p4 / (64 : Int32)) + (1 : Int32)) < (94 : Int32) then ((p4 / (64 : Int32)) + (1 : Int32)) else (94 : Int32))), (0, .ref h0), (1, .ref g1), (2, .int p2), (3, .int p3), (4, .int p4)]) hx hb dX1_daysMaking_15 hl (by decide) rfl (fun ls hl => ?_)
  have L17 : ∀ (n : Nat) (x6_17 : Int32) (v_times_17 : Nat → Nat → Int64) (v_rest_17 : Nat → Int64) (H : Heap) (locs : List Loc) (ls : Array Slot), f1_daysMaking_L17 N p2 p3 p4 w1_parts w1_rate w1_near n x6_17 v_times_17 v_rest_17 = some (r, nv_times, nv_rest) → va_P D vwCl ([(h0, .inr (1, [.ref h0_times, .ref h0_rest])), (h0_times, .inl (cy 6, 287, gO 287 rh0_times)), (h0_rest, .inl (cy 3, 94, .inr (.inl v_rest_17))), (g1, .inr (0, [.int w1_parts, og1_1, og1_2, og1_3, og1_4, og1_5, og1_6, .ref g1_rate, .ref g1_near, og1_9, og1_10, og1_11, og1_12])), (g1_rate, .inl (cy 2, 7, .inl w1_rate)), (g1_near, .inl (cy 2, 7, .inl w1_near))] ++ (gWL rh0_times 287 94 (cy 3) v_times_17)) H → va_D A ([(h0, .inr (1, [.ref h0_times, .ref h0_rest])), (h0_times, .inl (cy 6, 287, gO 287 rh0_times)), (h0_rest, .inl (cy 3, 94, .inr (.inl v_rest_17))), (g1, .inr (0, [.int w1_parts, og1_1, og1_2, og1_3, og1_4, og1_5, og1_6, .ref g1_rate, .ref g1_near, og1_9, og1_10, og1_11, og1_12])), (g1_rate, .inl (cy 2, 7, .inl w1_rate)), (g1_near, .inl (cy 2, 7, .inl w1_near))] ++ (gWL rh0_times 287 94 (cy 3) v_times_17)) → va_S A s.heap H locs → lv_has ls 8 [(0, .ref h0), (1, .ref g1), (2, .int p2), (3, .int p3), (4, .int p4), (5, .int (if ((p4 / (64 : Int32)) + (1 : Int32)) < (94 : Int32) then ((p4 / (64 : Int32)) + (1 : Int32)) else (94 : Int32))), (6, .int x6_17)] → W p l e r1_daysMaking s m args below meth c H locs 0 0 Q (F0 m 17 ls []) := by
    intro n
    induction n with
    | zero =>
      intro x6_17 v_times_17 v_rest_17 H locs ls hM
      exact absurd hM (by simp [f1_daysMaking_L17])
    | succ n ih =>
      intro x6_17 v_times_17 v_rest_17 H locs ls hM hP hD hS hl
      rw [f1_daysMaking_L17] at hM
      refine lv_iload hx hb dX1_daysMaking_17 (lv_at hl 6 rfl) ?_
      refine lv_bipush (v := 40) hx hb dX1_daysMaking_19 (by decide) ?_
      refine lv_icmp_gt (tgt := 98) hx hb dX1_daysMaking_21 (by decide) (fun c21 => ?_) (fun c21 => ?_)
      · have hM := g_pos c21 hM
        refine lv_iconst (v := -1) hx hb dX1_daysMaking_98 (by decide) ?_
        obtain ⟨rfl, rfl, rfl⟩ := si3 hM
        exact hret _ _ _ _ _ dX1_daysMaking_99 rfl rfl hP hD hS
      · have hM := g_neg c21 hM
        refine lv_iconst (v := 0) hx hb dX1_daysMaking_24 (by decide) ?_
        refine lv_istore (lv' := [(7, .int (0 : Int32)), (0, .ref h0), (1, .ref g1), (2, .int p2), (3, .int p3), (4, .int p4), (5, .int (if ((p4 / (64 : Int32)) + (1 : Int32)) < (94 : Int32) then ((p4 / (64 : Int32)) + (1 : Int32)) else (94 : Int32))), (6, .int x6_17)]) hx hb dX1_daysMaking_25 hl (by decide) rfl (fun ls hl => ?_)
        have L27 : ∀ (n : Nat) (x7_27 : Int32) (v_times_27 : Nat → Nat → Int64) (v_rest_27 : Nat → Int64) (v_times_e27 : Nat → Nat → Int64) (v_rest_e27 : Nat → Int64) (H : Heap) (locs : List Loc) (ls : Array Slot), f1_daysMaking_L27 N p3 p4 w1_parts w1_rate w1_near x6_17 n x7_27 v_times_27 v_rest_27 = some (v_times_e27, v_rest_e27) → va_P D vwCl ([(h0, .inr (1, [.ref h0_times, .ref h0_rest])), (h0_times, .inl (cy 6, 287, gO 287 rh0_times)), (h0_rest, .inl (cy 3, 94, .inr (.inl v_rest_27))), (g1, .inr (0, [.int w1_parts, og1_1, og1_2, og1_3, og1_4, og1_5, og1_6, .ref g1_rate, .ref g1_near, og1_9, og1_10, og1_11, og1_12])), (g1_rate, .inl (cy 2, 7, .inl w1_rate)), (g1_near, .inl (cy 2, 7, .inl w1_near))] ++ (gWL rh0_times 287 94 (cy 3) v_times_27)) H → va_D A ([(h0, .inr (1, [.ref h0_times, .ref h0_rest])), (h0_times, .inl (cy 6, 287, gO 287 rh0_times)), (h0_rest, .inl (cy 3, 94, .inr (.inl v_rest_27))), (g1, .inr (0, [.int w1_parts, og1_1, og1_2, og1_3, og1_4, og1_5, og1_6, .ref g1_rate, .ref g1_near, og1_9, og1_10, og1_11, og1_12])), (g1_rate, .inl (cy 2, 7, .inl w1_rate)), (g1_near, .inl (cy 2, 7, .inl w1_near))] ++ (gWL rh0_times 287 94 (cy 3) v_times_27)) → va_S A s.heap H locs → lv_has ls 8 [(0, .ref h0), (1, .ref g1), (2, .int p2), (3, .int p3), (4, .int p4), (5, .int (if ((p4 / (64 : Int32)) + (1 : Int32)) < (94 : Int32) then ((p4 / (64 : Int32)) + (1 : Int32)) else (94 : Int32))), (6, .int x6_17), (7, .int x7_27)] → (∀ (H : Heap) (locs : List Loc) (ls : Array Slot), va_P D vwCl ([(h0, .inr (1, [.ref h0_times, .ref h0_rest])), (h0_times, .inl (cy 6, 287, gO 287 rh0_times)), (h0_rest, .inl (cy 3, 94, .inr (.inl v_rest_e27))), (g1, .inr (0, [.int w1_parts, og1_1, og1_2, og1_3, og1_4, og1_5, og1_6, .ref g1_rate, .ref g1_near, og1_9, og1_10, og1_11, og1_12])), (g1_rate, .inl (cy 2, 7, .inl w1_rate)), (g1_near, .inl (cy 2, 7, .inl w1_near))] ++ (gWL rh0_times 287 94 (cy 3) v_times_e27)) H → va_D A ([(h0, .inr (1, [.ref h0_times, .ref h0_rest])), (h0_times, .inl (cy 6, 287, gO 287 rh0_times)), (h0_rest, .inl (cy 3, 94, .inr (.inl v_rest_e27))), (g1, .inr (0, [.int w1_parts, og1_1, og1_2, og1_3, og1_4, og1_5, og1_6, .ref g1_rate, .ref g1_near, og1_9, og1_10, og1_11, og1_12])), (g1_rate, .inl (cy 2, 7, .inl w1_rate)), (g1_near, .inl (cy 2, 7, .inl w1_near))] ++ (gWL rh0_times 287 94 (cy 3) v_times_e27)) → va_S A s.heap H locs → lv_has ls 8 [(0, .ref h0), (1, .ref g1), (2, .int p2), (3, .int p3), (4, .int p4), (5, .int (if ((p4 / (64 : Int32)) + (1 : Int32)) < (94 : Int32) then ((p4 / (64 : Int32)) + (1 : Int32)) else (94 : Int32))), (6, .int x6_17)] → W p l e r1_daysMaking s m args below meth c H locs 0 0 Q (F0 m 77 ls [])) → W p l e r1_daysMaking s m args below meth c H locs 0 0 Q (F0 m 27 ls []) := by
          intro n
          induction n with
          | zero =>
            intro x7_27 v_times_27 v_rest_27 v_times_e27 v_rest_e27 H locs ls hM
            exact absurd hM (by simp [f1_daysMaking_L27])
          | succ n ih =>
            intro x7_27 v_times_27 v_rest_27 v_times_e27 v_rest_e27 H locs ls hM hP hD hS hl K
            rw [f1_daysMaking_L27] at hM
            refine lv_iload hx hb dX1_daysMaking_27 (lv_at hl 7 rfl) ?_
            refine lv_bipush (v := 7) hx hb dX1_daysMaking_29 (by decide) ?_
            refine lv_icmp_ge (tgt := 77) hx hb dX1_daysMaking_31 (by decide) (fun c31 => ?_) (fun c31 => ?_)
            · have hM := g_pos c31 hM
              obtain ⟨rfl, rfl⟩ := si2 hM
              exact K _ _ _ hP hD hS (lv_sub hl [0, 1, 2, 3, 4, 5, 6] rfl)
            · have hM := g_neg c31 hM
              refine lv_aload_n hx hb dX1_daysMaking_34 rfl (lv_at hl 1 rfl) ?_
              refine lv_iload hx hb dX1_daysMaking_35 (lv_at hl 7 rfl) ?_
              obtain ⟨r37, hc37, hM⟩ := ob1_some hM
              refine cg_vi (As := [.int x7_27]) (rest := []) (ci := 0) (q0 := 3) (wr := ([(h0, .inr (1, [.ref h0_times, .ref h0_rest])), (h0_times, .inl (cy 6, 287, gO 287 rh0_times)), (h0_rest, .inl (cy 3, 94, .inr (.inl v_rest_27))), (g1_rate, .inl (cy 2, 7, .inl w1_rate)), (g1_near, .inl (cy 2, 7, .inl w1_near))] ++ (gWL rh0_times 287 94 (cy 3) v_times_27))) (ws2 := ([(h0, .inr (1, [.ref h0_times, .ref h0_rest])), (h0_times, .inl (cy 6, 287, gO 287 rh0_times)), (h0_rest, .inl (cy 3, 94, .inr (.inl v_rest_27))), (g1, .inr (0, [.int w1_parts, og1_1, og1_2, og1_3, og1_4, og1_5, og1_6, .ref g1_rate, .ref g1_near, og1_9, og1_10, og1_11, og1_12])), (g1_rate, .inl (cy 2, 7, .inl w1_rate)), (g1_near, .inl (cy 2, 7, .inl w1_near))] ++ (gWL rh0_times 287 94 (cy 3) v_times_27))) hx hb hml hown hts (c0_hasPart l D cy N g1 og1_1 og1_2 og1_3 og1_4 og1_5 og1_6 (.ref g1_rate) (.ref g1_near) og1_9 og1_10 og1_11 og1_12 x7_27 w1_parts r37 hc37) (cwV 1 hts gX1_daysMaking_X0_hasPart rfl rfl rfl (by decide +kernel) ⟨Nat.le_of_ble_eq_true rfl, Nat.le_of_ble_eq_true rfl⟩) hK hP hD hS hA rfl rfl (pm_Q (pm_x [0, 1, 2, 4, 5, 3] rfl rfl)) (pm_Q (pm_x [0, 1, 2, 4, 5, 3] rfl rfl)).symm rfl rfl hl.1 (Nat.le_of_ble_eq_true rfl) dX1_daysMaking_37 ⟨Nat.zero_le _, Nat.zero_le _⟩ (fun H locs hP hD hS => ?_)
              refine lv_if_eq (tgt := 71) hx hb dX1_daysMaking_40 (by decide) (fun c40 => ?_) (fun c40 => ?_)
              · have hM := g_pos c40 hM
                refine lv_iinc (v := x7_27 + (1 : Int32)) (lv' := [(7, .int (x7_27 + (1 : Int32))), (0, .ref h0), (1, .ref g1), (2, .int p2), (3, .int p3), (4, .int p4), (5, .int (if ((p4 / (64 : Int32)) + (1 : Int32)) < (94 : Int32) then ((p4 / (64 : Int32)) + (1 : Int32)) else (94 : Int32))), (6, .int x6_17)]) hx hb dX1_daysMaking_71 hl (k := 7) rfl rfl (by decide) rfl (fun ls hl => ?_)
                refine lv_goto (tgt := 27) hx hb dX1_daysMaking_74 (by decide) ?_
                exact ih (x7_27 + (1 : Int32)) v_times_27 v_rest_27 v_times_e27 v_rest_e27 _ _ _ hM hP hD hS (lv_sub hl [1, 2, 3, 4, 5, 6, 7, 0] rfl) K
              · have hM := g_neg c40 hM
                refine lv_aload_n hx hb dX1_daysMaking_43 rfl (lv_at hl 0 rfl) ?_
                refine lv_aload_n hx hb dX1_daysMaking_44 rfl (lv_at hl 1 rfl) ?_
                refine lv_iload_n hx hb dX1_daysMaking_45 rfl (lv_at hl 3 rfl) ?_
                refine lv_iload hx hb dX1_daysMaking_46 (lv_at hl 6 rfl) ?_
                refine lv_iload hx hb dX1_daysMaking_48 (lv_at hl 7 rfl) ?_
                refine lv_iload hx hb dX1_daysMaking_50 (lv_at hl 5 rfl) ?_
                obtain ⟨v_rest_52, hc52, hM⟩ := ob1_some hM
                refine cg_vv (As := [.ref g1, .int p3, .int x6_17, .int x7_27, .int (if ((p4 / (64 : Int32)) + (1 : Int32)) < (94 : Int32) then ((p4 / (64 : Int32)) + (1 : Int32)) else (94 : Int32))]) (rest := []) (ci := 1) (q0 := 0) (wr := [(g1_rate, .inl (cy 2, 7, .inl w1_rate))]) (ws2 := ([(h0, .inr (1, [.ref h0_times, .ref h0_rest])), (h0_times, .inl (cy 6, 287, gO 287 rh0_times)), (h0_rest, .inl (cy 3, 94, .inr (.inl v_rest_52))), (g1, .inr (0, [.int w1_parts, og1_1, og1_2, og1_3, og1_4, og1_5, og1_6, .ref g1_rate, .ref g1_near, og1_9, og1_10, og1_11, og1_12])), (g1_rate, .inl (cy 2, 7, .inl w1_rate)), (g1_near, .inl (cy 2, 7, .inl w1_near))] ++ (gWL rh0_times 287 94 (cy 3) v_times_27))) hx hb hml hown hts (c1_layRest l D cy N rh0_times h0 h0_times h0_rest g1 g1_near og1_1 og1_2 og1_3 og1_4 og1_5 og1_6 (.ref g1_rate) og1_9 og1_10 og1_11 og1_12 p3 x6_17 x7_27 (if ((p4 / (64 : Int32)) + (1 : Int32)) < (94 : Int32) then ((p4 / (64 : Int32)) + (1 : Int32)) else (94 : Int32)) v_times_27 v_rest_27 w1_parts w1_near v_rest_52 hc52) (cwV 5 hts gX1_daysMaking_X1_layRest rfl rfl rfl (by decide +kernel) ⟨Nat.le_of_ble_eq_true rfl, Nat.le_of_ble_eq_true rfl⟩) hK hP hD hS hA rfl rfl (pm_P (pm_x [4, 0, 1, 2, 3, 5] rfl rfl)) (pm_P (pm_x [4, 0, 1, 2, 3, 5] rfl rfl)).symm rfl rfl hl.1 (Nat.le_of_ble_eq_true rfl) dX1_daysMaking_52 ⟨Nat.zero_le _, Nat.zero_le _⟩ (fun H locs hP hD hS => ?_)
                refine lv_aload_n hx hb dX1_daysMaking_55 rfl (lv_at hl 0 rfl) ?_
                refine lv_iload hx hb dX1_daysMaking_56 (lv_at hl 6 rfl) ?_
                refine lv_iload hx hb dX1_daysMaking_58 (lv_at hl 7 rfl) ?_
                refine lv_aload_n hx hb dX1_daysMaking_60 rfl (lv_at hl 1 rfl) ?_
                refine lv_iload hx hb dX1_daysMaking_61 (lv_at hl 7 rfl) ?_
                obtain ⟨r63, hc63, hM⟩ := ob1_some hM
                refine cg_vi (As := [.int x7_27]) (rest := [.int x7_27, .int x6_17, .ref h0]) (ci := 0) (q0 := 3) (wr := ([(h0, .inr (1, [.ref h0_times, .ref h0_rest])), (h0_times, .inl (cy 6, 287, gO 287 rh0_times)), (h0_rest, .inl (cy 3, 94, .inr (.inl v_rest_52))), (g1_near, .inl (cy 2, 7, .inl w1_near))] ++ (gWL rh0_times 287 94 (cy 3) v_times_27))) (ws2 := ([(h0, .inr (1, [.ref h0_times, .ref h0_rest])), (h0_times, .inl (cy 6, 287, gO 287 rh0_times)), (h0_rest, .inl (cy 3, 94, .inr (.inl v_rest_52))), (g1, .inr (0, [.int w1_parts, og1_1, og1_2, og1_3, og1_4, og1_5, og1_6, .ref g1_rate, .ref g1_near, og1_9, og1_10, og1_11, og1_12])), (g1_rate, .inl (cy 2, 7, .inl w1_rate)), (g1_near, .inl (cy 2, 7, .inl w1_near))] ++ (gWL rh0_times 287 94 (cy 3) v_times_27))) hx hb hml hown hts (c0_rateOf l D cy N g1 g1_rate og1_1 og1_2 og1_3 og1_4 og1_5 og1_6 (.ref g1_near) og1_9 og1_10 og1_11 og1_12 x7_27 w1_parts w1_rate r63 hc63) (cwV 1 hts gX1_daysMaking_X0_rateOf rfl rfl rfl (by decide +kernel) ⟨Nat.le_of_ble_eq_true rfl, Nat.le_of_ble_eq_true rfl⟩) hK hP hD hS hA rfl rfl (pm_Q (pm_x [0, 1, 2, 5, 3, 4] rfl rfl)) (pm_Q (pm_x [0, 1, 2, 5, 3, 4] rfl rfl)).symm rfl rfl hl.1 (Nat.le_of_ble_eq_true rfl) dX1_daysMaking_63 ⟨Nat.zero_le _, Nat.zero_le _⟩ (fun H locs hP hD hS => ?_)
                refine lv_iload hx hb dX1_daysMaking_66 (lv_at hl 5 rfl) ?_
                obtain ⟨v_times_68, hc68, hM⟩ := ob1_some hM
                refine cg_vv (As := [.int x6_17, .int x7_27, .int r63, .int (if ((p4 / (64 : Int32)) + (1 : Int32)) < (94 : Int32) then ((p4 / (64 : Int32)) + (1 : Int32)) else (94 : Int32))]) (rest := []) (ci := 1) (q0 := 0) (wr := [(g1, .inr (0, [.int w1_parts, og1_1, og1_2, og1_3, og1_4, og1_5, og1_6, .ref g1_rate, .ref g1_near, og1_9, og1_10, og1_11, og1_12])), (g1_rate, .inl (cy 2, 7, .inl w1_rate)), (g1_near, .inl (cy 2, 7, .inl w1_near))]) (ws2 := ([(h0, .inr (1, [.ref h0_times, .ref h0_rest])), (h0_times, .inl (cy 6, 287, gO 287 rh0_times)), (h0_rest, .inl (cy 3, 94, .inr (.inl v_rest_52))), (g1, .inr (0, [.int w1_parts, og1_1, og1_2, og1_3, og1_4, og1_5, og1_6, .ref g1_rate, .ref g1_near, og1_9, og1_10, og1_11, og1_12])), (g1_rate, .inl (cy 2, 7, .inl w1_rate)), (g1_near, .inl (cy 2, 7, .inl w1_near))] ++ (gWL rh0_times 287 94 (cy 3) v_times_68))) hx hb hml hown hts (c1_layShifted l D cy N rh0_times h0 h0_times h0_rest x6_17 x7_27 r63 (if ((p4 / (64 : Int32)) + (1 : Int32)) < (94 : Int32) then ((p4 / (64 : Int32)) + (1 : Int32)) else (94 : Int32)) v_times_27 v_rest_52 v_times_68 hc68) (cwV 4 hts gX1_daysMaking_X1_layShifted rfl rfl rfl (by decide +kernel) ⟨Nat.le_of_ble_eq_true rfl, Nat.le_of_ble_eq_true rfl⟩) hK hP hD hS hA rfl rfl (pm_P (pm_x [3, 4, 5, 0, 1, 2] rfl rfl)) (pm_P (pm_x [3, 4, 5, 0, 1, 2] rfl rfl)).symm rfl rfl hl.1 (Nat.le_of_ble_eq_true rfl) dX1_daysMaking_68 ⟨Nat.zero_le _, Nat.zero_le _⟩ (fun H locs hP hD hS => ?_)
                refine lv_iinc (v := x7_27 + (1 : Int32)) (lv' := [(7, .int (x7_27 + (1 : Int32))), (0, .ref h0), (1, .ref g1), (2, .int p2), (3, .int p3), (4, .int p4), (5, .int (if ((p4 / (64 : Int32)) + (1 : Int32)) < (94 : Int32) then ((p4 / (64 : Int32)) + (1 : Int32)) else (94 : Int32))), (6, .int x6_17)]) hx hb dX1_daysMaking_71 hl (k := 7) rfl rfl (by decide) rfl (fun ls hl => ?_)
                refine lv_goto (tgt := 27) hx hb dX1_daysMaking_74 (by decide) ?_
                exact ih (x7_27 + (1 : Int32)) v_times_68 v_rest_52 v_times_e27 v_rest_e27 _ _ _ hM hP hD hS (lv_sub hl [1, 2, 3, 4, 5, 6, 7, 0] rfl) K
        obtain ⟨v_times_e27, v_rest_e27, hL27, hM⟩ := ob2_some hM
        refine L27 N (0 : Int32) v_times_17 v_rest_17 v_times_e27 v_rest_e27 _ _ _ hL27 hP hD hS (lv_sub hl [1, 2, 3, 4, 5, 6, 7, 0] rfl) ?_
        intro H locs ls hP hD hS hl
        refine lv_aload_n hx hb dX1_daysMaking_77 rfl (lv_at hl 0 rfl) ?_
        refine lv_iload hx hb dX1_daysMaking_78 (lv_at hl 6 rfl) ?_
        refine lv_iload_n hx hb dX1_daysMaking_80 rfl (lv_at hl 2 rfl) ?_
        refine lv_iload hx hb dX1_daysMaking_81 (lv_at hl 4 rfl) ?_
        obtain ⟨r83, hc83, hM⟩ := ob1_some hM
        refine cg_vi (As := [.int x6_17, .int p2, .int p4]) (rest := []) (ci := 1) (q0 := 0) (wr := [(h0_rest, .inl (cy 3, 94, .inr (.inl v_rest_e27))), (g1, .inr (0, [.int w1_parts, og1_1, og1_2, og1_3, og1_4, og1_5, og1_6, .ref g1_rate, .ref g1_near, og1_9, og1_10, og1_11, og1_12])), (g1_rate, .inl (cy 2, 7, .inl w1_rate)), (g1_near, .inl (cy 2, 7, .inl w1_near))]) (ws2 := ([(h0, .inr (1, [.ref h0_times, .ref h0_rest])), (h0_times, .inl (cy 6, 287, gO 287 rh0_times)), (h0_rest, .inl (cy 3, 94, .inr (.inl v_rest_e27))), (g1, .inr (0, [.int w1_parts, og1_1, og1_2, og1_3, og1_4, og1_5, og1_6, .ref g1_rate, .ref g1_near, og1_9, og1_10, og1_11, og1_12])), (g1_rate, .inl (cy 2, 7, .inl w1_rate)), (g1_near, .inl (cy 2, 7, .inl w1_near))] ++ (gWL rh0_times 287 94 (cy 3) v_times_e27))) hx hb hml hown hts (c1_canMake l D cy N rh0_times h0 h0_times (.ref h0_rest) x6_17 p2 p4 v_times_e27 r83 hc83) (cwV 3 hts gX1_daysMaking_X1_canMake rfl rfl rfl (by decide +kernel) ⟨Nat.le_of_ble_eq_true rfl, Nat.le_of_ble_eq_true rfl⟩) hK hP hD hS hA rfl rfl (pm_P (pm_x [2, 3, 4, 5, 0, 1] rfl rfl)) (pm_P (pm_x [2, 3, 4, 5, 0, 1] rfl rfl)).symm rfl rfl hl.1 (Nat.le_of_ble_eq_true rfl) dX1_daysMaking_83 ⟨Nat.zero_le _, Nat.zero_le _⟩ (fun H locs hP hD hS => ?_)
        refine lv_if_eq (tgt := 92) hx hb dX1_daysMaking_86 (by decide) (fun c86 => ?_) (fun c86 => ?_)
        · have hM := g_pos c86 hM
          refine lv_iinc (v := x6_17 + (1 : Int32)) (lv' := [(6, .int (x6_17 + (1 : Int32))), (0, .ref h0), (1, .ref g1), (2, .int p2), (3, .int p3), (4, .int p4), (5, .int (if ((p4 / (64 : Int32)) + (1 : Int32)) < (94 : Int32) then ((p4 / (64 : Int32)) + (1 : Int32)) else (94 : Int32)))]) hx hb dX1_daysMaking_92 hl (k := 6) rfl rfl (by decide) rfl (fun ls hl => ?_)
          refine lv_goto (tgt := 17) hx hb dX1_daysMaking_95 (by decide) ?_
          exact ih (x6_17 + (1 : Int32)) v_times_e27 v_rest_e27 _ _ _ hM hP hD hS (lv_sub hl [1, 2, 3, 4, 5, 6, 0] rfl)
        · have hM := g_neg c86 hM
          refine lv_iload hx hb dX1_daysMaking_89 (lv_at hl 6 rfl) ?_
          obtain ⟨rfl, rfl, rfl⟩ := si3 hM
          exact hret _ _ _ _ _ dX1_daysMaking_91 rfl rfl hP hD hS
  exact L17 N (1 : Int32) v_times v_rest _ _ _ hM hP hD hS (lv_sub hl [2, 3, 4, 5, 6, 1, 0] rfl)
