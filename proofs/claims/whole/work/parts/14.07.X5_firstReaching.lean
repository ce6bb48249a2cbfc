-- ===== X5_firstReaching firstReaching (LCaveYears$Cave;III)I =====
abbrev r5_firstReaching : Room := { frames := 3, cells := 0, slots := 0, locals := 65 }
def f5_firstReaching_L3 (N : Nat) (p2 : Int32) (p3 : Int32) (p4 : Int32) (v_least : Nat → Nat → Int32) (v_most : Nat → Nat → Int32) (w1_parts : Int32) (w1_near : Nat → Int32) : Nat → Int32 → Option Int32
  | 0, _ => none
  | n + 1, x5_3 => if (7 : Int32) ≤ x5_3 then (some (-1 : Int32)) else (ob1 (f0_mayFollow N p2 x5_3 w1_parts w1_near) fun r14 => if r14 = (0 : Int32) then ((f5_firstReaching_L3 N p2 p3 p4 v_least v_most w1_parts w1_near n) (x5_3 + (1 : Int32))) else (ob1 (f5_mostTime N p3 x5_3 v_least v_most) fun r24 => if r24 < (if (0 : Int32) < p4 then p4 else (0 : Int32)) then ((f5_firstReaching_L3 N p2 p3 p4 v_least v_most w1_parts w1_near n) (x5_3 + (1 : Int32))) else (some x5_3)))
def f5_firstReaching (N : Nat) (p2 : Int32) (p3 : Int32) (p4 : Int32) (v_least : Nat → Nat → Int32) (v_most : Nat → Nat → Int32) (w1_parts : Int32) (w1_near : Nat → Int32) : Option Int32 :=
  f5_firstReaching_L3 N p2 p3 p4 v_least v_most w1_parts w1_near N (0 : Int32)
set_option maxHeartbeats 4000000 in
set_option maxRecDepth 100000 in
theorem c5_firstReaching (l : Launch) (D : va_G) (cy : Nat → ClassId) (N : Nat) (rh0_least : Nat → Nat) (rh0_most : Nat → Nat) (h0 h0_least h0_most g1 g1_near : Nat) (oh0_0 og1_1 og1_2 og1_3 og1_4 og1_5 og1_6 og1_7 og1_9 og1_10 og1_11 og1_12 : Value) (p2 : Int32) (p3 : Int32) (p4 : Int32) (v_least : Nat → Nat → Int32) (v_most : Nat → Nat → Int32) (w1_parts : Int32) (w1_near : Nat → Int32) (r : Int32) (hM : f5_firstReaching N p2 p3 p4 v_least v_most w1_parts w1_near = some r) (sz : Nat) : CTi l yX5_firstReaching wsX5_firstReaching r5_firstReaching [.ref h0, .ref g1, .int p2, .int p3, .int p4] D cy sz ([(h0, .inr (5, [oh0_0, .ref h0_most])), (h0_least, .inl (cy 5, 41, gO 41 rh0_least)), (h0_most, .inl (cy 5, 41, gO 41 rh0_most)), (g1, .inr (0, [.int w1_parts, og1_1, og1_2, og1_3, og1_4, og1_5, og1_6, og1_7, .ref g1_near, og1_9, og1_10, og1_11, og1_12])), (g1_near, .inl (cy 2, 7, .inl w1_near))] ++ (gW rh0_least 41 7 (cy 2) v_least ++ gW rh0_most 41 7 (cy 2) v_most)) ([(h0, .inr (5, [oh0_0, .ref h0_most])), (h0_least, .inl (cy 5, 41, gO 41 rh0_least)), (h0_most, .inl (cy 5, 41, gO 41 rh0_most)), (g1, .inr (0, [.int w1_parts, og1_1, og1_2, og1_3, og1_4, og1_5, og1_6, og1_7, .ref g1_near, og1_9, og1_10, og1_11, og1_12])), (g1_near, .inl (cy 2, 7, .inl w1_near))] ++ (gW rh0_least 41 7 (cy 2) v_least ++ gW rh0_most 41 7 (cy 2) v_most)) r := by
  unfold f5_firstReaching at hM
  refine ct_oi (cc := cX5_firstReaching) (maxL := 6) (ty := .int) (by decide +kernel) rfl (Nat.le_of_ble_eq_true rfl) (lv0 := [(0, .ref h0), (1, .ref g1), (2, .int p2), (3, .int p3), (4, .int p4)]) rfl ?_
  intro p e s m args below meth c A Q ls hx hb hts hown hml hK hP hD hS hA hret hl
  have hown : s.vm.findClass RX5 = some m.cls := hown
  have k31 := hts (.methodLink RX5 31 Lib.Math.max.name) (List.mem_of_getElem? (i := 1) rfl)
  have ks31 := hts (.static Lib.Math.max.name) (List.mem_of_getElem? (i := 2) rfl)
  have kmath := hts (.initialized "java/lang/Math") (List.mem_of_getElem? (i := 3) rfl)
  have kc31 := hts (.code Lib.Math.max.name Lib.Math.max.code 2 (some .int)) (List.mem_of_getElem? (i := 4) rfl)
  refine lv_iconst (v := 0) hx hb dX5_firstReaching_0 (by decide) ?_
  refine lv_istore (lv' := [(5, .int (0 : Int32)), (0, .ref h0), (1, .ref g1), (2, .int p2), (3, .int p3), (4, .int p4)]) hx hb dX5_firstReaching_1 hl (by decide) rfl (fun ls hl => ?_)
  have L3 : ∀ (n : Nat) (x5_3 : Int32) (H : Heap) (locs : List Loc) (ls : Array Slot), f5_firstReaching_L3 N p2 p3 p4 v_least v_most w1_parts w1_near n x5_3 = some r → va_P D vwCl ([(h0, .inr (5, [oh0_0, .ref h0_most])), (h0_least, .inl (cy 5, 41, gO 41 rh0_least)), (h0_most, .inl (cy 5, 41, gO 41 rh0_most)), (g1, .inr (0, [.int w1_parts, og1_1, og1_2, og1_3, og1_4, og1_5, og1_6, og1_7, .ref g1_near, og1_9, og1_10, og1_11, og1_12])), (g1_near, .inl (cy 2, 7, .inl w1_near))] ++ (gW rh0_least 41 7 (cy 2) v_least ++ gW rh0_most 41 7 (cy 2) v_most)) H → va_D A ([(h0, .inr (5, [oh0_0, .ref h0_most])), (h0_least, .inl (cy 5, 41, gO 41 rh0_least)), (h0_most, .inl (cy 5, 41, gO 41 rh0_most)), (g1, .inr (0, [.int w1_parts, og1_1, og1_2, og1_3, og1_4, og1_5, og1_6, og1_7, .ref g1_near, og1_9, og1_10, og1_11, og1_12])), (g1_near, .inl (cy 2, 7, .inl w1_near))] ++ (gW rh0_least 41 7 (cy 2) v_least ++ gW rh0_most 41 7 (cy 2) v_most)) → va_S A s.heap H locs → lv_has ls 6 [(0, .ref h0), (1, .ref g1), (2, .int p2), (3, .int p3), (4, .int p4), (5, .int x5_3)] → W p l e r5_firstReaching s m args below meth c H locs 0 0 Q (F0 m 3 ls []) := by
    intro n
    induction n with
    | zero =>
      intro x5_3 H locs ls hM
      exact absurd hM (by simp [f5_firstReaching_L3])
    | succ n ih =>
      intro x5_3 H locs ls hM hP hD hS hl
      rw [f5_firstReaching_L3] at hM
      refine lv_iload hx hb dX5_firstReaching_3 (lv_at hl 5 rfl) ?_
      refine lv_bipush (v := 7) hx hb dX5_firstReaching_5 (by decide) ?_
      refine lv_icmp_ge (tgt := 45) hx hb dX5_firstReaching_7 (by decide) (fun c7 => ?_) (fun c7 => ?_)
      · have hM := g_pos c7 hM
        refine lv_iconst (v := -1) hx hb dX5_firstReaching_45 (by decide) ?_
        obtain rfl := si1 hM
        exact hret _ _ _ _ _ dX5_firstReaching_46 rfl rfl hP hD hS
      · have hM := g_neg c7 hM
        refine lv_aload_n hx hb dX5_firstReaching_10 rfl (lv_at hl 1 rfl) ?_
        refine lv_iload_n hx hb dX5_firstReaching_11 rfl (lv_at hl 2 rfl) ?_
        refine lv_iload hx hb dX5_firstReaching_12 (lv_at hl 5 rfl) ?_
        obtain ⟨r14, hc14, hM⟩ := ob1_some hM
        refine cg_vi (As := [.int p2, .int x5_3]) (rest := []) (ci := 0) (q0 := 3) (wr := ([(h0, .inr (5, [oh0_0, .ref h0_most])), (h0_least, .inl (cy 5, 41, gO 41 rh0_least)), (h0_most, .inl (cy 5, 41, gO 41 rh0_most))] ++ (gW rh0_least 41 7 (cy 2) v_least ++ gW rh0_most 41 7 (cy 2) v_most))) (ws2 := ([(h0, .inr (5, [oh0_0, .ref h0_most])), (h0_least, .inl (cy 5, 41, gO 41 rh0_least)), (h0_most, .inl (cy 5, 41, gO 41 rh0_most)), (g1, .inr (0, [.int w1_parts, og1_1, og1_2, og1_3, og1_4, og1_5, og1_6, og1_7, .ref g1_near, og1_9, og1_10, og1_11, og1_12])), (g1_near, .inl (cy 2, 7, .inl w1_near))] ++ (gW rh0_least 41 7 (cy 2) v_least ++ gW rh0_most 41 7 (cy 2) v_most))) hx hb hml hown hts (c0_mayFollow l D cy N g1 g1_near og1_1 og1_2 og1_3 og1_4 og1_5 og1_6 og1_7 og1_9 og1_10 og1_11 og1_12 p2 x5_3 w1_parts w1_near r14 hc14) (cwV 2 hts gX5_firstReaching_X0_mayFollow rfl rfl rfl (by decide +kernel) ⟨Nat.le_of_ble_eq_true rfl, Nat.le_of_ble_eq_true rfl⟩) hK hP hD hS hA rfl rfl (pm_Q (pm_x [0, 1, 2, 3, 4] rfl rfl)) (pm_Q (pm_x [0, 1, 2, 3, 4] rfl rfl)).symm rfl rfl hl.1 (Nat.le_of_ble_eq_true rfl) dX5_firstReaching_14 ⟨Nat.zero_le _, Nat.zero_le _⟩ (fun H locs hP hD hS => ?_)
        refine lv_if_eq (tgt := 39) hx hb dX5_firstReaching_17 (by decide) (fun c17 => ?_) (fun c17 => ?_)
        · have hM := g_pos c17 hM
          refine lv_iinc (v := x5_3 + (1 : Int32)) (lv' := [(5, .int (x5_3 + (1 : Int32))), (0, .ref h0), (1, .ref g1), (2, .int p2), (3, .int p3), (4, .int p4)]) hx hb dX5_firstReaching_39 hl (k := 5) rfl rfl (by decide) rfl (fun ls hl => ?_)
          refine lv_goto (tgt := 3) hx hb dX5_firstReaching_42 (by decide) ?_
          exact ih (x5_3 + (1 : Int32)) _ _ _ hM hP hD hS (lv_sub hl [1, 2, 3, 4, 5, 0] rfl)
        · have hM := g_neg c17 hM
          refine lv_aload_n hx hb dX5_firstReaching_20 rfl (lv_at hl 0 rfl) ?_
          refine lv_iload_n hx hb dX5_firstReaching_21 rfl (lv_at hl 3 rfl) ?_
          refine lv_iload hx hb dX5_firstReaching_22 (lv_at hl 5 rfl) ?_
          obtain ⟨r24, hc24, hM⟩ := ob1_some hM
          refine cg_vi (As := [.int p3, .int x5_3]) (rest := []) (ci := 5) (q0 := 0) (wr := [(g1, .inr (0, [.int w1_parts, og1_1, og1_2, og1_3, og1_4, og1_5, og1_6, og1_7, .ref g1_near, og1_9, og1_10, og1_11, og1_12])), (g1_near, .inl (cy 2, 7, .inl w1_near))]) (ws2 := ([(h0, .inr (5, [oh0_0, .ref h0_most])), (h0_least, .inl (cy 5, 41, gO 41 rh0_least)), (h0_most, .inl (cy 5, 41, gO 41 rh0_most)), (g1, .inr (0, [.int w1_parts, og1_1, og1_2, og1_3, og1_4, og1_5, og1_6, og1_7, .ref g1_near, og1_9, og1_10, og1_11, og1_12])), (g1_near, .inl (cy 2, 7, .inl w1_near))] ++ (gW rh0_least 41 7 (cy 2) v_least ++ gW rh0_most 41 7 (cy 2) v_most))) hx hb hml hown hts (c5_mostTime l D cy N rh0_least rh0_most h0 h0_least h0_most oh0_0 p3 x5_3 v_least v_most r24 hc24) (cwV 2 hts gX5_firstReaching_X5_mostTime rfl rfl rfl (by decide +kernel) ⟨Nat.le_of_ble_eq_true rfl, Nat.le_of_ble_eq_true rfl⟩) hK hP hD hS hA rfl rfl (pm_P (pm_x [3, 4, 0, 1, 2] rfl rfl)) (pm_P (pm_x [3, 4, 0, 1, 2] rfl rfl)).symm rfl rfl hl.1 (Nat.le_of_ble_eq_true rfl) dX5_firstReaching_24 ⟨Nat.zero_le _, Nat.zero_le _⟩ (fun H locs hP hD hS => ?_)
          refine lv_iconst (v := 0) hx hb dX5_firstReaching_27 (by decide) ?_
          refine lv_iload hx hb dX5_firstReaching_28 (lv_at hl 4 rfl) ?_
          refine va_mmax hx hb (hml.trans hl.1.symm) hown k31 ks31 kmath kc31 (Nat.le_of_ble_eq_true rfl) (Nat.le_of_ble_eq_true rfl) (Nat.zero_le _) (Nat.zero_le _) dX5_firstReaching_30 ?_
          refine lv_icmp_lt (tgt := 39) hx hb dX5_firstReaching_33 (by decide) (fun c33 => ?_) (fun c33 => ?_)
          · have hM := g_pos c33 hM
            refine lv_iinc (v := x5_3 + (1 : Int32)) (lv' := [(5, .int (x5_3 + (1 : Int32))), (0, .ref h0), (1, .ref g1), (2, .int p2), (3, .int p3), (4, .int p4)]) hx hb dX5_firstReaching_39 hl (k := 5) rfl rfl (by decide) rfl (fun ls hl => ?_)
            refine lv_goto (tgt := 3) hx hb dX5_firstReaching_42 (by decide) ?_
            exact ih (x5_3 + (1 : Int32)) _ _ _ hM hP hD hS (lv_sub hl [1, 2, 3, 4, 5, 0] rfl)
          · have hM := g_neg c33 hM
            refine lv_iload hx hb dX5_firstReaching_36 (lv_at hl 5 rfl) ?_
            obtain rfl := si1 hM
            exact hret _ _ _ _ _ dX5_firstReaching_38 rfl rfl hP hD hS
  exact L3 N (0 : Int32) _ _ _ hM hP hD hS (lv_sub hl [1, 2, 3, 4, 5, 0] rfl)
