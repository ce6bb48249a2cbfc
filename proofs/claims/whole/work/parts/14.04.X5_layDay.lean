-- ===== X5_layDay layDay (LCaveYears$Cave;II)V =====
abbrev r5_layDay : Room := { frames := 4, cells := 0, slots := 0, locals := 92 }
def f5_layDay_L3 (N : Nat) (p2 : Int32) (p3 : Int32) (w1_parts : Int32) (w1_rate : Nat → Int32) (w1_near : Nat → Int32) : Nat → Int32 → (Nat → Nat → Int32) → (Nat → Nat → Int32) → Option ((Nat → Nat → Int32) × (Nat → Nat → Int32))
  | 0, _, _, _ => none
  | n + 1, x4_3, v_least_3, v_most_3 => if (7 : Int32) ≤ x4_3 then (some (v_least_3, v_most_3)) else (ob1 (f0_hasPart N x4_3 w1_parts) fun r13 => if r13 = (0 : Int32) then ((f5_layDay_L3 N p2 p3 w1_parts w1_rate w1_near n) (x4_3 + (1 : Int32)) v_least_3 v_most_3) else (ob1 (f5_isCell N p3 x4_3) fun r22 => if r22 = (0 : Int32) then ((f5_layDay_L3 N p2 p3 w1_parts w1_rate w1_near n) (x4_3 + (1 : Int32)) v_least_3 v_most_3) else (ob2 (f5_layCell N p2 p3 x4_3 v_least_3 v_most_3 w1_parts w1_rate w1_near) fun v_least_34 v_most_34 => (f5_layDay_L3 N p2 p3 w1_parts w1_rate w1_near n) (x4_3 + (1 : Int32)) v_least_34 v_most_34)))
def f5_layDay (N : Nat) (p2 : Int32) (p3 : Int32) (v_least : Nat → Nat → Int32) (v_most : Nat → Nat → Int32) (w1_parts : Int32) (w1_rate : Nat → Int32) (w1_near : Nat → Int32) : Option ((Nat → Nat → Int32) × (Nat → Nat → Int32)) :=
  ob2 (f5_layDay_L3 N p2 p3 w1_parts w1_rate w1_near N (0 : Int32) v_least v_most) fun v_least_e3 v_most_e3 => some (v_least_e3, v_most_e3)
set_option maxHeartbeats 4000000 in
set_option maxRecDepth 100000 in
theorem c5_layDay (l : Launch) (D : va_G) (cy : Nat → ClassId) (N : Nat) (rh0_least : Nat → Nat) (rh0_most : Nat → Nat) (h0 h0_least h0_most g1 g1_rate g1_near : Nat) (og1_1 og1_2 og1_3 og1_4 og1_5 og1_6 og1_9 og1_10 og1_11 og1_12 : Value) (p2 : Int32) (p3 : Int32) (v_least : Nat → Nat → Int32) (v_most : Nat → Nat → Int32) (w1_parts : Int32) (w1_rate : Nat → Int32) (w1_near : Nat → Int32) (nv_least : Nat → Nat → Int32) (nv_most : Nat → Nat → Int32) (hM : f5_layDay N p2 p3 v_least v_most w1_parts w1_rate w1_near = some (nv_least, nv_most)) (sz : Nat) : CTv l yX5_layDay wsX5_layDay r5_layDay [.ref h0, .ref g1, .int p2, .int p3] D cy sz ([(h0, .inr (5, [.ref h0_least, .ref h0_most])), (h0_least, .inl (cy 5, 41, gO 41 rh0_least)), (h0_most, .inl (cy 5, 41, gO 41 rh0_most)), (g1, .inr (0, [.int w1_parts, og1_1, og1_2, og1_3, og1_4, og1_5, og1_6, .ref g1_rate, .ref g1_near, og1_9, og1_10, og1_11, og1_12])), (g1_rate, .inl (cy 2, 7, .inl w1_rate)), (g1_near, .inl (cy 2, 7, .inl w1_near))] ++ (gW rh0_least 41 7 (cy 2) v_least ++ gW rh0_most 41 7 (cy 2) v_most)) ([(h0, .inr (5, [.ref h0_least, .ref h0_most])), (h0_least, .inl (cy 5, 41, gO 41 rh0_least)), (h0_most, .inl (cy 5, 41, gO 41 rh0_most)), (g1, .inr (0, [.int w1_parts, og1_1, og1_2, og1_3, og1_4, og1_5, og1_6, .ref g1_rate, .ref g1_near, og1_9, og1_10, og1_11, og1_12])), (g1_rate, .inl (cy 2, 7, .inl w1_rate)), (g1_near, .inl (cy 2, 7, .inl w1_near))] ++ (gW rh0_least 41 7 (cy 2) nv_least ++ gW rh0_most 41 7 (cy 2) nv_most)) := by
  unfold f5_layDay at hM
  refine ct_ov (cc := cX5_layDay) (maxL := 5)  (by decide +kernel) rfl (Nat.le_of_ble_eq_true rfl) (lv0 := [(0, .ref h0), (1, .ref g1), (2, .int p2), (3, .int p3)]) rfl ?_
  intro p e s m args below meth c A Q ls hx hb hts hown hml hK hP hD hS hA hret hl
  have hown : s.vm.findClass RX5 = some m.cls := hown
  refine lv_iconst (v := 0) hx hb dX5_layDay_0 (by decide) ?_
  refine lv_istore (lv' := [(4, .int (0 : Int32)), (0, .ref h0), (1, .ref g1), (2, .int p2), (3, .int p3)]) hx hb dX5_layDay_1 hl (by decide) rfl (fun ls hl => ?_)
  have L3 : ∀ (n : Nat) (x4_3 : Int32) (v_least_3 : Nat → Nat → Int32) (v_most_3 : Nat → Nat → Int32) (v_least_e3 : Nat → Nat → Int32) (v_most_e3 : Nat → Nat → Int32) (H : Heap) (locs : List Loc) (ls : Array Slot), f5_layDay_L3 N p2 p3 w1_parts w1_rate w1_near n x4_3 v_least_3 v_most_3 = some (v_least_e3, v_most_e3) → va_P D vwCl ([(h0, .inr (5, [.ref h0_least, .ref h0_most])), (h0_least, .inl (cy 5, 41, gO 41 rh0_least)), (h0_most, .inl (cy 5, 41, gO 41 rh0_most)), (g1, .inr (0, [.int w1_parts, og1_1, og1_2, og1_3, og1_4, og1_5, og1_6, .ref g1_rate, .ref g1_near, og1_9, og1_10, og1_11, og1_12])), (g1_rate, .inl (cy 2, 7, .inl w1_rate)), (g1_near, .inl (cy 2, 7, .inl w1_near))] ++ (gW rh0_least 41 7 (cy 2) v_least_3 ++ gW rh0_most 41 7 (cy 2) v_most_3)) H → va_D A ([(h0, .inr (5, [.ref h0_least, .ref h0_most])), (h0_least, .inl (cy 5, 41, gO 41 rh0_least)), (h0_most, .inl (cy 5, 41, gO 41 rh0_most)), (g1, .inr (0, [.int w1_parts, og1_1, og1_2, og1_3, og1_4, og1_5, og1_6, .ref g1_rate, .ref g1_near, og1_9, og1_10, og1_11, og1_12])), (g1_rate, .inl (cy 2, 7, .inl w1_rate)), (g1_near, .inl (cy 2, 7, .inl w1_near))] ++ (gW rh0_least 41 7 (cy 2) v_least_3 ++ gW rh0_most 41 7 (cy 2) v_most_3)) → va_S A s.heap H locs → lv_has ls 5 [(0, .ref h0), (1, .ref g1), (2, .int p2), (3, .int p3), (4, .int x4_3)] → (∀ (H : Heap) (locs : List Loc) (ls : Array Slot), va_P D vwCl ([(h0, .inr (5, [.ref h0_least, .ref h0_most])), (h0_least, .inl (cy 5, 41, gO 41 rh0_least)), (h0_most, .inl (cy 5, 41, gO 41 rh0_most)), (g1, .inr (0, [.int w1_parts, og1_1, og1_2, og1_3, og1_4, og1_5, og1_6, .ref g1_rate, .ref g1_near, og1_9, og1_10, og1_11, og1_12])), (g1_rate, .inl (cy 2, 7, .inl w1_rate)), (g1_near, .inl (cy 2, 7, .inl w1_near))] ++ (gW rh0_least 41 7 (cy 2) v_least_e3 ++ gW rh0_most 41 7 (cy 2) v_most_e3)) H → va_D A ([(h0, .inr (5, [.ref h0_least, .ref h0_most])), (h0_least, .inl (cy 5, 41, gO 41 rh0_least)), (h0_most, .inl (cy 5, 41, gO 41 rh0_most)), (g1, .inr (0, [.int w1_parts, og1_1, og1_2, og1_3, og1_4, og1_5, og1_6, .ref g1_rate, .ref g1_near, og1_9, og1_10, og1_11, og1_12])), (g1_rate, .inl (cy 2, 7, .inl w1_rate)), (g1_near, .inl (cy 2, 7, .inl w1_near))] ++ (gW rh0_least 41 7 (cy 2) v_least_e3 ++ gW rh0_most 41 7 (cy 2) v_most_e3)) → va_S A s.heap H locs → lv_has ls 5 [] → W p l e r5_layDay s m args below meth c H locs 0 0 Q (F0 m 43 ls [])) → W p l e r5_layDay s m args below meth c H locs 0 0 Q (F0 m 3 ls []) := by
    intro n
    induction n with
    | zero =>
      intro x4_3 v_least_3 v_most_3 v_least_e3 v_most_e3 H locs ls hM
      exact absurd hM (by simp [f5_layDay_L3])
    | succ n ih =>
      intro x4_3 v_least_3 v_most_3 v_least_e3 v_most_e3 H locs ls hM hP hD hS hl K
      rw [f5_layDay_L3] at hM
      refine lv_iload hx hb dX5_layDay_3 (lv_at hl 4 rfl) ?_
      refine lv_bipush (v := 7) hx hb dX5_layDay_5 (by decide) ?_
      refine lv_icmp_ge (tgt := 43) hx hb dX5_layDay_7 (by decide) (fun c7 => ?_) (fun c7 => ?_)
      · have hM := g_pos c7 hM
        obtain ⟨rfl, rfl⟩ := si2 hM
        exact K _ _ _ hP hD hS (lv_sub hl [] rfl)
      · have hM := g_neg c7 hM
        refine lv_aload_n hx hb dX5_layDay_10 rfl (lv_at hl 1 rfl) ?_
        refine lv_iload hx hb dX5_layDay_11 (lv_at hl 4 rfl) ?_
        obtain ⟨r13, hc13, hM⟩ := ob1_some hM
        refine cg_vi (As := [.int x4_3]) (rest := []) (ci := 0) (q0 := 3) (wr := ([(h0, .inr (5, [.ref h0_least, .ref h0_most])), (h0_least, .inl (cy 5, 41, gO 41 rh0_least)), (h0_most, .inl (cy 5, 41, gO 41 rh0_most)), (g1_rate, .inl (cy 2, 7, .inl w1_rate)), (g1_near, .inl (cy 2, 7, .inl w1_near))] ++ (gW rh0_least 41 7 (cy 2) v_least_3 ++ gW rh0_most 41 7 (cy 2) v_most_3))) (ws2 := ([(h0, .inr (5, [.ref h0_least, .ref h0_most])), (h0_least, .inl (cy 5, 41, gO 41 rh0_least)), (h0_most, .inl (cy 5, 41, gO 41 rh0_most)), (g1, .inr (0, [.int w1_parts, og1_1, og1_2, og1_3, og1_4, og1_5, og1_6, .ref g1_rate, .ref g1_near, og1_9, og1_10, og1_11, og1_12])), (g1_rate, .inl (cy 2, 7, .inl w1_rate)), (g1_near, .inl (cy 2, 7, .inl w1_near))] ++ (gW rh0_least 41 7 (cy 2) v_least_3 ++ gW rh0_most 41 7 (cy 2) v_most_3))) hx hb hml hown hts (c0_hasPart l D cy N g1 og1_1 og1_2 og1_3 og1_4 og1_5 og1_6 (.ref g1_rate) (.ref g1_near) og1_9 og1_10 og1_11 og1_12 x4_3 w1_parts r13 hc13) (cwV 1 hts gX5_layDay_X0_hasPart rfl rfl rfl (by decide +kernel) ⟨Nat.le_of_ble_eq_true rfl, Nat.le_of_ble_eq_true rfl⟩) hK hP hD hS hA rfl rfl (pm_Q (pm_x [0, 1, 2, 4, 5, 3] rfl rfl)) (pm_Q (pm_x [0, 1, 2, 4, 5, 3] rfl rfl)).symm rfl rfl hl.1 (Nat.le_of_ble_eq_true rfl) dX5_layDay_13 ⟨Nat.zero_le _, Nat.zero_le _⟩ (fun H locs hP hD hS => ?_)
        refine lv_if_eq (tgt := 37) hx hb dX5_layDay_16 (by decide) (fun c16 => ?_) (fun c16 => ?_)
        · have hM := g_pos c16 hM
          refine lv_iinc (v := x4_3 + (1 : Int32)) (lv' := [(4, .int (x4_3 + (1 : Int32))), (0, .ref h0), (1, .ref g1), (2, .int p2), (3, .int p3)]) hx hb dX5_layDay_37 hl (k := 4) rfl rfl (by decide) rfl (fun ls hl => ?_)
          refine lv_goto (tgt := 3) hx hb dX5_layDay_40 (by decide) ?_
          exact ih (x4_3 + (1 : Int32)) v_least_3 v_most_3 v_least_e3 v_most_e3 _ _ _ hM hP hD hS (lv_sub hl [1, 2, 3, 4, 0] rfl) K
        · have hM := g_neg c16 hM
          refine lv_iload_n hx hb dX5_layDay_19 rfl (lv_at hl 3 rfl) ?_
          refine lv_iload hx hb dX5_layDay_20 (lv_at hl 4 rfl) ?_
          obtain ⟨r22, hc22, hM⟩ := ob1_some hM
          refine cg_si (As := [.int p3, .int x4_3]) (rest := []) (wr := ([(h0, .inr (5, [.ref h0_least, .ref h0_most])), (h0_least, .inl (cy 5, 41, gO 41 rh0_least)), (h0_most, .inl (cy 5, 41, gO 41 rh0_most)), (g1, .inr (0, [.int w1_parts, og1_1, og1_2, og1_3, og1_4, og1_5, og1_6, .ref g1_rate, .ref g1_near, og1_9, og1_10, og1_11, og1_12])), (g1_rate, .inl (cy 2, 7, .inl w1_rate)), (g1_near, .inl (cy 2, 7, .inl w1_near))] ++ (gW rh0_least 41 7 (cy 2) v_least_3 ++ gW rh0_most 41 7 (cy 2) v_most_3))) (ws2 := ([(h0, .inr (5, [.ref h0_least, .ref h0_most])), (h0_least, .inl (cy 5, 41, gO 41 rh0_least)), (h0_most, .inl (cy 5, 41, gO 41 rh0_most)), (g1, .inr (0, [.int w1_parts, og1_1, og1_2, og1_3, og1_4, og1_5, og1_6, .ref g1_rate, .ref g1_near, og1_9, og1_10, og1_11, og1_12])), (g1_rate, .inl (cy 2, 7, .inl w1_rate)), (g1_near, .inl (cy 2, 7, .inl w1_near))] ++ (gW rh0_least 41 7 (cy 2) v_least_3 ++ gW rh0_most 41 7 (cy 2) v_most_3))) hx hb hml hown hts (c5_isCell l D cy N p3 x4_3 r22 hc22) (va_cwS 2 hts gX5_layDay_X5_isCell rfl rfl rfl (by decide +kernel) ⟨Nat.le_of_ble_eq_true rfl, Nat.le_of_ble_eq_true rfl⟩) hK hP hD hS hA (pm_Q (pm_x [0, 1, 2, 3, 4, 5] rfl rfl)) (pm_Q (pm_x [0, 1, 2, 3, 4, 5] rfl rfl)).symm rfl rfl hl.1 (Nat.le_of_ble_eq_true rfl) dX5_layDay_22 ⟨Nat.zero_le _, Nat.zero_le _⟩ (fun H locs hP hD hS => ?_)
          refine lv_if_eq (tgt := 37) hx hb dX5_layDay_25 (by decide) (fun c25 => ?_) (fun c25 => ?_)
          · have hM := g_pos c25 hM
            refine lv_iinc (v := x4_3 + (1 : Int32)) (lv' := [(4, .int (x4_3 + (1 : Int32))), (0, .ref h0), (1, .ref g1), (2, .int p2), (3, .int p3)]) hx hb dX5_layDay_37 hl (k := 4) rfl rfl (by decide) rfl (fun ls hl => ?_)
            refine lv_goto (tgt := 3) hx hb dX5_layDay_40 (by decide) ?_
            exact ih (x4_3 + (1 : Int32)) v_least_3 v_most_3 v_least_e3 v_most_e3 _ _ _ hM hP hD hS (lv_sub hl [1, 2, 3, 4, 0] rfl) K
          · have hM := g_neg c25 hM
            refine lv_aload_n hx hb dX5_layDay_28 rfl (lv_at hl 0 rfl) ?_
            refine lv_aload_n hx hb dX5_layDay_29 rfl (lv_at hl 1 rfl) ?_
            refine lv_iload_n hx hb dX5_layDay_30 rfl (lv_at hl 2 rfl) ?_
            refine lv_iload_n hx hb dX5_layDay_31 rfl (lv_at hl 3 rfl) ?_
            refine lv_iload hx hb dX5_layDay_32 (lv_at hl 4 rfl) ?_
            obtain ⟨v_least_34, v_most_34, hc34, hM⟩ := ob2_some hM
            refine cg_vv (As := [.ref g1, .int p2, .int p3, .int x4_3]) (rest := []) (ci := 5) (q0 := 0) (wr := []) (ws2 := ([(h0, .inr (5, [.ref h0_least, .ref h0_most])), (h0_least, .inl (cy 5, 41, gO 41 rh0_least)), (h0_most, .inl (cy 5, 41, gO 41 rh0_most)), (g1, .inr (0, [.int w1_parts, og1_1, og1_2, og1_3, og1_4, og1_5, og1_6, .ref g1_rate, .ref g1_near, og1_9, og1_10, og1_11, og1_12])), (g1_rate, .inl (cy 2, 7, .inl w1_rate)), (g1_near, .inl (cy 2, 7, .inl w1_near))] ++ (gW rh0_least 41 7 (cy 2) v_least_34 ++ gW rh0_most 41 7 (cy 2) v_most_34))) hx hb hml hown hts (c5_layCell l D cy N rh0_least rh0_most h0 h0_least h0_most g1 g1_rate g1_near og1_1 og1_2 og1_3 og1_4 og1_5 og1_6 og1_9 og1_10 og1_11 og1_12 p2 p3 x4_3 v_least_3 v_most_3 w1_parts w1_rate w1_near v_least_34 v_most_34 hc34) (cwV 4 hts gX5_layDay_X5_layCell rfl rfl rfl (by decide +kernel) ⟨Nat.le_of_ble_eq_true rfl, Nat.le_of_ble_eq_true rfl⟩) hK hP hD hS hA rfl rfl (pm_P (pm_x [0, 1, 2, 3, 4, 5] rfl rfl)) (pm_P (pm_x [0, 1, 2, 3, 4, 5] rfl rfl)).symm rfl rfl hl.1 (Nat.le_of_ble_eq_true rfl) dX5_layDay_34 ⟨Nat.zero_le _, Nat.zero_le _⟩ (fun H locs hP hD hS => ?_)
            refine lv_iinc (v := x4_3 + (1 : Int32)) (lv' := [(4, .int (x4_3 + (1 : Int32))), (0, .ref h0), (1, .ref g1), (2, .int p2), (3, .int p3)]) hx hb dX5_layDay_37 hl (k := 4) rfl rfl (by decide) rfl (fun ls hl => ?_)
            refine lv_goto (tgt := 3) hx hb dX5_layDay_40 (by decide) ?_
            exact ih (x4_3 + (1 : Int32)) v_least_34 v_most_34 v_least_e3 v_most_e3 _ _ _ hM hP hD hS (lv_sub hl [1, 2, 3, 4, 0] rfl) K
  obtain ⟨v_least_e3, v_most_e3, hL3, hM⟩ := ob2_some hM
  refine L3 N (0 : Int32) v_least v_most v_least_e3 v_most_e3 _ _ _ hL3 hP hD hS (lv_sub hl [1, 2, 3, 4, 0] rfl) ?_
  intro H locs ls hP hD hS hl
  obtain ⟨rfl, rfl⟩ := si2 hM
  exact hret _ _ _ _ dX5_layDay_43 hP hD hS
