-- ===== X3_setFault setFault (II)V =====
abbrev r3_setFault : Room := { frames := 0, cells := 0, slots := 0, locals := 0 }
def f3_setFault (N : Nat) (p1 : Int32) (p2 : Int32) (v_faultKind : Int32) (v_faultAt : Int32) : Option (Int32 × Int32) :=
  some (p1, p2)
set_option maxHeartbeats 4000000 in
set_option maxRecDepth 100000 in
theorem c3_setFault (l : Launch) (D : va_G) (cy : Nat → ClassId) (N : Nat) (h0 : Nat) (oh0_2 oh0_3 oh0_4 : Value) (p1 : Int32) (p2 : Int32) (v_faultKind : Int32) (v_faultAt : Int32) (nv_faultKind : Int32) (nv_faultAt : Int32) (hM : f3_setFault N p1 p2 v_faultKind v_faultAt = some (nv_faultKind, nv_faultAt)) (sz : Nat) : CTv l yX3_setFault wsX3_setFault r3_setFault [.ref h0, .int p1, .int p2] D cy sz [(h0, .inr (3, [.int v_faultKind, .int v_faultAt, oh0_2, oh0_3, oh0_4]))] [(h0, .inr (3, [.int nv_faultKind, .int nv_faultAt, oh0_2, oh0_3, oh0_4]))] := by
  unfold f3_setFault at hM
  refine ct_ov (cc := cX3_setFault) (maxL := 3)  (by decide +kernel) rfl (Nat.le_of_ble_eq_true rfl) (lv0 := [(0, .ref h0), (1, .int p1), (2, .int p2)]) rfl ?_
  intro p e s m args below meth c A Q ls hx hb hts hown hml hK hP hD hS hA hret hl
  have hown : s.vm.findClass RX3 = some m.cls := hown
  have k9 := hts (.fieldLink RX3 9 "CaveYears$Reader" "faultKind" "I") (List.mem_of_getElem? (i := 1) rfl)
  have iX3 := (fun w h => (List.mem_cons_of_mem _ (List.mem_append_right _ h)) : ∀ w ∈ wsX30, w ∈ wsX3_setFault)
  have k15 := hts (.fieldLink RX3 15 "CaveYears$Reader" "faultAt" "I") (List.mem_of_getElem? (i := 2) rfl)
  refine lv_aload_n hx hb dX3_setFault_0 rfl (lv_at hl 0 rfl) ?_
  refine lv_iload_n hx hb dX3_setFault_1 rfl (lv_at hl 1 rfl) ?_
  refine va_put (D := D) (ci := 3) (v := .int p1) (ty := .int) (C := RX3) (T := TX3) (N := 5) hx hb hts iX3 tyX3 tyX3_ok nmX3 hown hK hP hD hS 0 rfl rfl 0 (by decide) k9 (fun _ h9 => h9) rfl (by decide +kernel) rfl rfl (Nat.le_of_ble_eq_true rfl) dX3_setFault_2 (fun H locs hP hD hS => ?_)
  have hP : va_P D vwCl [(h0, .inr (3, [.int p1, .int v_faultAt, oh0_2, oh0_3, oh0_4]))] H := hP
  have hD : va_D A [(h0, .inr (3, [.int p1, .int v_faultAt, oh0_2, oh0_3, oh0_4]))] := hD
  refine lv_aload_n hx hb dX3_setFault_5 rfl (lv_at hl 0 rfl) ?_
  refine lv_iload_n hx hb dX3_setFault_6 rfl (lv_at hl 2 rfl) ?_
  refine va_put (D := D) (ci := 3) (v := .int p2) (ty := .int) (C := RX3) (T := TX3) (N := 5) hx hb hts iX3 tyX3 tyX3_ok nmX3 hown hK hP hD hS 0 rfl rfl 1 (by decide) k15 (fun _ h9 => h9) rfl (by decide +kernel) rfl rfl (Nat.le_of_ble_eq_true rfl) dX3_setFault_7 (fun H locs hP hD hS => ?_)
  have hP : va_P D vwCl [(h0, .inr (3, [.int p1, .int p2, oh0_2, oh0_3, oh0_4]))] H := hP
  have hD : va_D A [(h0, .inr (3, [.int p1, .int p2, oh0_2, oh0_3, oh0_4]))] := hD
  obtain ⟨rfl, rfl⟩ := si2 hM
  exact hret _ _ _ _ dX3_setFault_10 hP hD hS

-- ===== X3_skipBlanks skipBlanks ([C)V =====
abbrev r3_skipBlanks : Room := { frames := 0, cells := 0, slots := 0, locals := 0 }
def f3_skipBlanks_L5 (N : Nat) (v_length : Int32) (w1 : Nat → Int32) : Nat → Int32 → Int32 → Option Int32
  | 0, _, _ => none
  | n + 1, x2_5, v_at_5 => if v_length ≤ x2_5 then (some v_at_5) else (if x2_5 < (0 : Int32) then (some v_at_5) else (if (500 : Int32) ≤ x2_5 then (some v_at_5) else (gi x2_5 500 (if (w1 x2_5.toNatClampNeg) = (32 : Int32) then ((f3_skipBlanks_L5 N v_length w1 n) (x2_5 + (1 : Int32)) (v_at_5 + (1 : Int32))) else (some v_at_5)))))
def f3_skipBlanks (N : Nat) (v_at : Int32) (v_length : Int32) (w1 : Nat → Int32) : Option Int32 :=
  ob1 (f3_skipBlanks_L5 N v_length w1 N v_at v_at) fun v_at_e5 => some v_at_e5
set_option maxHeartbeats 4000000 in
set_option maxRecDepth 100000 in
theorem c3_skipBlanks (l : Launch) (D : va_G) (cy : Nat → ClassId) (N : Nat) (h0 g1 : Nat) (oh0_0 oh0_1 oh0_4 : Value) (v_at : Int32) (v_length : Int32) (w1 : Nat → Int32) (nv_at : Int32) (hM : f3_skipBlanks N v_at v_length w1 = some nv_at) (sz : Nat) : CTv l yX3_skipBlanks wsX3_skipBlanks r3_skipBlanks [.ref h0, .ref g1] D cy sz [(h0, .inr (3, [oh0_0, oh0_1, .int v_at, .int v_length, oh0_4])), (g1, .inl (cy 1, 500, .inl w1))] [(h0, .inr (3, [oh0_0, oh0_1, .int nv_at, .int v_length, oh0_4])), (g1, .inl (cy 1, 500, .inl w1))] := by
  unfold f3_skipBlanks at hM
  refine ct_ov (cc := cX3_skipBlanks) (maxL := 3)  (by decide +kernel) rfl (Nat.le_of_ble_eq_true rfl) (lv0 := [(0, .ref h0), (1, .ref g1)]) rfl ?_
  intro p e s m args below meth c A Q ls hx hb hts hown hml hK hP hD hS hA hret hl
  have hown : s.vm.findClass RX3 = some m.cls := hown
  have k18 := hts (.fieldLink RX3 18 "CaveYears$Reader" "at" "I") (List.mem_of_getElem? (i := 1) rfl)
  have iX3 := (fun w h => (List.mem_cons_of_mem _ (List.mem_append_right _ h)) : ∀ w ∈ wsX30, w ∈ wsX3_skipBlanks)
  have k27 := hts (.fieldLink RX3 27 "CaveYears$Reader" "length" "I") (List.mem_of_getElem? (i := 2) rfl)
  refine lv_aload_n hx hb dX3_skipBlanks_0 rfl (lv_at hl 0 rfl) ?_
  refine va_get (D := D) (ci := 3) (v := .int v_at) (C := RX3) (T := TX3) (N := 5) hx hb hts iX3 hown hK hP 0 rfl rfl 2 (by decide) k18 (fun _ h9 => h9) rfl dX3_skipBlanks_1 ?_
  refine lv_istore_n (lv' := [(2, .int v_at), (0, .ref h0), (1, .ref g1)]) hx hb dX3_skipBlanks_4 rfl hl (by decide) rfl (fun ls hl => ?_)
  have L5 : ∀ (n : Nat) (x2_5 : Int32) (v_at_5 : Int32) (v_at_e5 : Int32) (H : Heap) (locs : List Loc) (ls : Array Slot), f3_skipBlanks_L5 N v_length w1 n x2_5 v_at_5 = some v_at_e5 → va_P D vwCl [(h0, .inr (3, [oh0_0, oh0_1, .int v_at_5, .int v_length, oh0_4])), (g1, .inl (cy 1, 500, .inl w1))] H → va_D A [(h0, .inr (3, [oh0_0, oh0_1, .int v_at_5, .int v_length, oh0_4])), (g1, .inl (cy 1, 500, .inl w1))] → va_S A s.heap H locs → lv_has ls 3 [(0, .ref h0), (1, .ref g1), (2, .int x2_5)] → (∀ (H : Heap) (locs : List Loc) (ls : Array Slot), va_P D vwCl [(h0, .inr (3, [oh0_0, oh0_1, .int v_at_e5, .int v_length, oh0_4])), (g1, .inl (cy 1, 500, .inl w1))] H → va_D A [(h0, .inr (3, [oh0_0, oh0_1, .int v_at_e5, .int v_length, oh0_4])), (g1, .inl (cy 1, 500, .inl w1))] → va_S A s.heap H locs → lv_has ls 3 [] → W p l e r3_skipBlanks s m args below meth c H locs 0 0 Q (F0 m 47 ls [])) → W p l e r3_skipBlanks s m args below meth c H locs 0 0 Q (F0 m 5 ls []) := by
    intro n
    induction n with
    | zero =>
      intro x2_5 v_at_5 v_at_e5 H locs ls hM
      exact absurd hM (by simp [f3_skipBlanks_L5])
    | succ n ih =>
      intro x2_5 v_at_5 v_at_e5 H locs ls hM hP hD hS hl K
      rw [f3_skipBlanks_L5] at hM
      refine lv_iload_n hx hb dX3_skipBlanks_5 rfl (lv_at hl 2 rfl) ?_
      refine lv_aload_n hx hb dX3_skipBlanks_6 rfl (lv_at hl 0 rfl) ?_
      refine va_get (D := D) (ci := 3) (v := .int v_length) (C := RX3) (T := TX3) (N := 5) hx hb hts iX3 hown hK hP 0 rfl rfl 3 (by decide) k27 (fun _ h9 => h9) rfl dX3_skipBlanks_7 ?_
      refine lv_icmp_ge (tgt := 47) hx hb dX3_skipBlanks_10 (by decide) (fun c10 => ?_) (fun c10 => ?_)
      · have hM := g_pos c10 hM
        obtain rfl := si1 hM
        exact K _ _ _ hP hD hS (lv_sub hl [] rfl)
      · have hM := g_neg c10 hM
        refine lv_iload_n hx hb dX3_skipBlanks_13 rfl (lv_at hl 2 rfl) ?_
        refine lv_if_lt (tgt := 47) hx hb dX3_skipBlanks_14 (by decide) (fun c14 => ?_) (fun c14 => ?_)
        · have hM := g_pos c14 hM
          obtain rfl := si1 hM
          exact K _ _ _ hP hD hS (lv_sub hl [] rfl)
        · have hM := g_neg c14 hM
          refine lv_iload_n hx hb dX3_skipBlanks_17 rfl (lv_at hl 2 rfl) ?_
          refine lv_aload_n hx hb dX3_skipBlanks_18 rfl (lv_at hl 1 rfl) ?_
          refine va_alen (v := 500) hx hb hK hP 1 1 rfl rfl rfl dX3_skipBlanks_19 ?_
          refine lv_icmp_ge (tgt := 47) hx hb dX3_skipBlanks_20 (by decide) (fun c20 => ?_) (fun c20 => ?_)
          · have hM := g_pos c20 hM
            obtain rfl := si1 hM
            exact K _ _ _ hP hD hS (lv_sub hl [] rfl)
          · have hM := g_neg c20 hM
            refine lv_aload_n hx hb dX3_skipBlanks_23 rfl (lv_at hl 1 rfl) ?_
            refine lv_iload_n hx hb dX3_skipBlanks_24 rfl (lv_at hl 2 rfl) ?_
            obtain ⟨h25, hM⟩ := gi_some hM
            refine va_cald hx hb hK hP 1 1 rfl rfl h25 dX3_skipBlanks_25 ?_
            refine lv_bipush (v := 32) hx hb dX3_skipBlanks_26 (by decide) ?_
            refine lv_icmp_ne (tgt := 47) hx hb dX3_skipBlanks_28 (by decide) (fun c28 => ?_) (fun c28 => ?_)
            · have hM := g_neg c28 hM
              obtain rfl := si1 hM
              exact K _ _ _ hP hD hS (lv_sub hl [] rfl)
            · have hM := g_pos c28 hM
              refine lv_aload_n hx hb dX3_skipBlanks_31 rfl (lv_at hl 0 rfl) ?_
              refine lv_dup hx hb dX3_skipBlanks_32 rfl ?_
              refine va_get (D := D) (ci := 3) (v := .int v_at_5) (C := RX3) (T := TX3) (N := 5) hx hb hts iX3 hown hK hP 0 rfl rfl 2 (by decide) k18 (fun _ h9 => h9) rfl dX3_skipBlanks_33 ?_
              refine lv_iconst (v := 1) hx hb dX3_skipBlanks_36 (by decide) ?_
              refine lv_iadd hx hb dX3_skipBlanks_37 ?_
              refine va_put (D := D) (ci := 3) (v := .int (v_at_5 + (1 : Int32))) (ty := .int) (C := RX3) (T := TX3) (N := 5) hx hb hts iX3 tyX3 tyX3_ok nmX3 hown hK hP hD hS 0 rfl rfl 2 (by decide) k18 (fun _ h9 => h9) rfl (by decide +kernel) rfl rfl (Nat.le_of_ble_eq_true rfl) dX3_skipBlanks_38 (fun H locs hP hD hS => ?_)
              have hP : va_P D vwCl [(h0, .inr (3, [oh0_0, oh0_1, .int (v_at_5 + (1 : Int32)), .int v_length, oh0_4])), (g1, .inl (cy 1, 500, .inl w1))] H := hP
              have hD : va_D A [(h0, .inr (3, [oh0_0, oh0_1, .int (v_at_5 + (1 : Int32)), .int v_length, oh0_4])), (g1, .inl (cy 1, 500, .inl w1))] := hD
              refine lv_iinc (v := x2_5 + (1 : Int32)) (lv' := [(2, .int (x2_5 + (1 : Int32))), (0, .ref h0), (1, .ref g1)]) hx hb dX3_skipBlanks_41 hl (k := 2) rfl rfl (by decide) rfl (fun ls hl => ?_)
              refine lv_goto (tgt := 5) hx hb dX3_skipBlanks_44 (by decide) ?_
              exact ih (x2_5 + (1 : Int32)) (v_at_5 + (1 : Int32)) v_at_e5 _ _ _ hM hP hD hS (lv_sub hl [1, 2, 0] rfl) K
  obtain ⟨v_at_e5, hL5, hM⟩ := ob1_some hM
  refine L5 N v_at v_at v_at_e5 _ _ _ hL5 hP hD hS (lv_sub hl [1, 2, 0] rfl) ?_
  intro H locs ls hP hD hS hl
  obtain rfl := si1 hM
  exact hret _ _ _ _ dX3_skipBlanks_47 hP hD hS

-- ===== X3_readNumber readNumber ([CII)I =====
abbrev r3_readNumber : Room := { frames := 1, cells := 0, slots := 0, locals := 22 }
def f3_readNumber_L22 (N : Nat) (v_length : Int32) (w1 : Nat → Int32) (v_at_2 : Int32) : Nat → Int32 → Int32 → Int32 → Option (Int32 × Int32)
  | 0, _, _, _ => none
  | n + 1, x4_22, x5_22, v_at_22 => if v_length ≤ x5_22 then (some (x4_22, v_at_22)) else (if x5_22 < (0 : Int32) then (some (x4_22, v_at_22)) else (if (500 : Int32) ≤ x5_22 then (some (x4_22, v_at_22)) else (gi x5_22 500 (if (w1 x5_22.toNatClampNeg) < (48 : Int32) then (some (x4_22, v_at_22)) else (gi x5_22 500 (if (57 : Int32) < (w1 x5_22.toNatClampNeg) then (some (x4_22, v_at_22)) else (if (4 : Int32) ≤ (v_at_22 - v_at_2) then ((f3_readNumber_L22 N v_length w1 v_at_2 n) x4_22 (x5_22 + (1 : Int32)) (v_at_22 + (1 : Int32))) else (gi x5_22 500 ((f3_readNumber_L22 N v_length w1 v_at_2 n) (((10 : Int32) * x4_22) + ((w1 x5_22.toNatClampNeg) - (48 : Int32))) (x5_22 + (1 : Int32)) (v_at_22 + (1 : Int32)))))))))))
def f3_readNumber (N : Nat) (p2 : Int32) (p3 : Int32) (v_faultKind : Int32) (v_faultAt : Int32) (v_at : Int32) (v_length : Int32) (v_numberAt : Int32) (w1 : Nat → Int32) : Option (Int32 × Int32 × Int32 × Int32 × Int32) :=
  ob1 (f3_skipBlanks N v_at v_length w1) fun v_at_2 => ob2 (f3_readNumber_L22 N v_length w1 v_at_2 N (0 : Int32) v_at_2 v_at_2) fun e4_22 v_at_e22 => if v_at_e22 = v_at_2 then (ob2 (f3_setFault N (1 : Int32) v_at_2 v_faultKind v_faultAt) fun v_faultKind_122 v_faultAt_122 => some (e4_22, v_faultKind_122, v_faultAt_122, v_at_e22, v_at_2)) else (if (3 : Int32) < (v_at_e22 - v_at_2) then (ob2 (f3_setFault N (2 : Int32) v_at_2 v_faultKind v_faultAt) fun v_faultKind_159 v_faultAt_159 => some (e4_22, v_faultKind_159, v_faultAt_159, v_at_e22, v_at_2)) else (if e4_22 < p2 then (ob2 (f3_setFault N (2 : Int32) v_at_2 v_faultKind v_faultAt) fun v_faultKind_159 v_faultAt_159 => some (e4_22, v_faultKind_159, v_faultAt_159, v_at_e22, v_at_2)) else (if e4_22 ≤ p3 then (some (e4_22, v_faultKind, v_faultAt, v_at_e22, v_at_2)) else (ob2 (f3_setFault N (2 : Int32) v_at_2 v_faultKind v_faultAt) fun v_faultKind_159 v_faultAt_159 => some (e4_22, v_faultKind_159, v_faultAt_159, v_at_e22, v_at_2)))))
set_option maxHeartbeats 4000000 in
set_option maxRecDepth 100000 in
theorem c3_readNumber (l : Launch) (D : va_G) (cy : Nat → ClassId) (N : Nat) (h0 g1 : Nat) (p2 : Int32) (p3 : Int32) (v_faultKind : Int32) (v_faultAt : Int32) (v_at : Int32) (v_length : Int32) (v_numberAt : Int32) (w1 : Nat → Int32) (r : Int32) (nv_faultKind : Int32) (nv_faultAt : Int32) (nv_at : Int32) (nv_numberAt : Int32) (hM : f3_readNumber N p2 p3 v_faultKind v_faultAt v_at v_length v_numberAt w1 = some (r, nv_faultKind, nv_faultAt, nv_at, nv_numberAt)) (sz : Nat) : CTi l yX3_readNumber wsX3_readNumber r3_readNumber [.ref h0, .ref g1, .int p2, .int p3] D cy sz [(h0, .inr (3, [.int v_faultKind, .int v_faultAt, .int v_at, .int v_length, .int v_numberAt])), (g1, .inl (cy 1, 500, .inl w1))] [(h0, .inr (3, [.int nv_faultKind, .int nv_faultAt, .int nv_at, .int v_length, .int nv_numberAt])), (g1, .inl (cy 1, 500, .inl w1))] r := by
  unfold f3_readNumber at hM
  refine ct_oi (cc := cX3_readNumber) (maxL := 6) (ty := .int) (by decide +kernel) rfl (Nat.le_of_ble_eq_true rfl) (lv0 := [(0, .ref h0), (1, .ref g1), (2, .int p2), (3, .int p3)]) rfl ?_
  intro p e s m args below meth c A Q ls hx hb hts hown hml hK hP hD hS hA hret hl
  have hown : s.vm.findClass RX3 = some m.cls := hown
  have k18 := hts (.fieldLink RX3 18 "CaveYears$Reader" "at" "I") (List.mem_of_getElem? (i := 1) rfl)
  have iX3 := (fun w h => (List.mem_cons_of_mem _ (List.mem_append_right _ h)) : ∀ w ∈ wsX30, w ∈ wsX3_readNumber)
  have k74 := hts (.fieldLink RX3 74 "CaveYears$Reader" "numberAt" "I") (List.mem_of_getElem? (i := 2) rfl)
  have k27 := hts (.fieldLink RX3 27 "CaveYears$Reader" "length" "I") (List.mem_of_getElem? (i := 3) rfl)
  refine lv_aload_n hx hb dX3_readNumber_0 rfl (lv_at hl 0 rfl) ?_
  refine lv_aload_n hx hb dX3_readNumber_1 rfl (lv_at hl 1 rfl) ?_
  obtain ⟨v_at_2, hc2, hM⟩ := ob1_some hM
  refine cl_vv (As := [.ref g1]) (rest := []) (ci := 3) (q0 := 0) (wr := []) (ws2 := [(h0, .inr (3, [.int v_faultKind, .int v_faultAt, .int v_at_2, .int v_length, .int v_numberAt])), (g1, .inl (cy 1, 500, .inl w1))]) (isC := [0, 1]) (isR := []) (pm := [0, 1]) hx hb hml hown hts (c3_skipBlanks l D cy N h0 g1 (.int v_faultKind) (.int v_faultAt) (.int v_numberAt) v_at v_length w1 v_at_2 hc2) (cwV 1 hts gX3_readNumber_X3_skipBlanks rfl rfl rfl (by decide +kernel) ⟨Nat.le_of_ble_eq_true rfl, Nat.le_of_ble_eq_true rfl⟩) hK hP hD hS hA rfl rfl rfl rfl rfl (by decide) rfl rfl rfl hl.1 (Nat.le_of_ble_eq_true rfl) dX3_readNumber_2 ⟨Nat.zero_le _, Nat.zero_le _⟩ rfl rfl (fun H locs hP hD hS => ?_)
  refine lv_aload_n hx hb dX3_readNumber_5 rfl (lv_at hl 0 rfl) ?_
  refine lv_aload_n hx hb dX3_readNumber_6 rfl (lv_at hl 0 rfl) ?_
  refine va_get (D := D) (ci := 3) (v := .int v_at_2) (C := RX3) (T := TX3) (N := 5) hx hb hts iX3 hown hK hP 0 rfl rfl 2 (by decide) k18 (fun _ h9 => h9) rfl dX3_readNumber_7 ?_
  refine va_put (D := D) (ci := 3) (v := .int v_at_2) (ty := .int) (C := RX3) (T := TX3) (N := 5) hx hb hts iX3 tyX3 tyX3_ok nmX3 hown hK hP hD hS 0 rfl rfl 4 (by decide) k74 (fun _ h9 => h9) rfl (by decide +kernel) rfl rfl (Nat.le_of_ble_eq_true rfl) dX3_readNumber_10 (fun H locs hP hD hS => ?_)
  have hP : va_P D vwCl [(h0, .inr (3, [.int v_faultKind, .int v_faultAt, .int v_at_2, .int v_length, .int v_at_2])), (g1, .inl (cy 1, 500, .inl w1))] H := hP
  have hD : va_D A [(h0, .inr (3, [.int v_faultKind, .int v_faultAt, .int v_at_2, .int v_length, .int v_at_2])), (g1, .inl (cy 1, 500, .inl w1))] := hD
  refine lv_iconst (v := 0) hx hb dX3_readNumber_13 (by decide) ?_
  refine lv_istore (lv' := [(4, .int (0 : Int32)), (0, .ref h0), (1, .ref g1), (2, .int p2), (3, .int p3)]) hx hb dX3_readNumber_14 hl (by decide) rfl (fun ls hl => ?_)
  refine lv_aload_n hx hb dX3_readNumber_16 rfl (lv_at hl 1 rfl) ?_
  refine va_get (D := D) (ci := 3) (v := .int v_at_2) (C := RX3) (T := TX3) (N := 5) hx hb hts iX3 hown hK hP 0 rfl rfl 2 (by decide) k18 (fun _ h9 => h9) rfl dX3_readNumber_17 ?_
  refine lv_istore (lv' := [(5, .int v_at_2), (4, .int (0 : Int32)), (0, .ref h0), (1, .ref g1), (2, .int p2), (3, .int p3)]) hx hb dX3_readNumber_20 hl (by decide) rfl (fun ls hl => ?_)
  have L22 : ∀ (n : Nat) (x4_22 : Int32) (x5_22 : Int32) (v_at_22 : Int32) (e4_22 : Int32) (v_at_e22 : Int32) (H : Heap) (locs : List Loc) (ls : Array Slot), f3_readNumber_L22 N v_length w1 v_at_2 n x4_22 x5_22 v_at_22 = some (e4_22, v_at_e22) → va_P D vwCl [(h0, .inr (3, [.int v_faultKind, .int v_faultAt, .int v_at_22, .int v_length, .int v_at_2])), (g1, .inl (cy 1, 500, .inl w1))] H → va_D A [(h0, .inr (3, [.int v_faultKind, .int v_faultAt, .int v_at_22, .int v_length, .int v_at_2])), (g1, .inl (cy 1, 500, .inl w1))] → va_S A s.heap H locs → lv_has ls 6 [(0, .ref h0), (1, .ref g1), (2, .int p2), (3, .int p3), (4, .int x4_22), (5, .int x5_22)] → (∀ (H : Heap) (locs : List Loc) (ls : Array Slot), va_P D vwCl [(h0, .inr (3, [.int v_faultKind, .int v_faultAt, .int v_at_e22, .int v_length, .int v_at_2])), (g1, .inl (cy 1, 500, .inl w1))] H → va_D A [(h0, .inr (3, [.int v_faultKind, .int v_faultAt, .int v_at_e22, .int v_length, .int v_at_2])), (g1, .inl (cy 1, 500, .inl w1))] → va_S A s.heap H locs → lv_has ls 6 [(0, .ref h0), (2, .int p2), (3, .int p3), (4, .int e4_22)] → W p l e r3_readNumber s m args below meth c H locs 0 0 Q (F0 m 105 ls [])) → W p l e r3_readNumber s m args below meth c H locs 0 0 Q (F0 m 22 ls []) := by
    intro n
    induction n with
    | zero =>
      intro x4_22 x5_22 v_at_22 e4_22 v_at_e22 H locs ls hM
      exact absurd hM (by simp [f3_readNumber_L22])
    | succ n ih =>
      intro x4_22 x5_22 v_at_22 e4_22 v_at_e22 H locs ls hM hP hD hS hl K
      rw [f3_readNumber_L22] at hM
      refine lv_iload hx hb dX3_readNumber_22 (lv_at hl 5 rfl) ?_
      refine lv_aload_n hx hb dX3_readNumber_24 rfl (lv_at hl 0 rfl) ?_
      refine va_get (D := D) (ci := 3) (v := .int v_length) (C := RX3) (T := TX3) (N := 5) hx hb hts iX3 hown hK hP 0 rfl rfl 3 (by decide) k27 (fun _ h9 => h9) rfl dX3_readNumber_25 ?_
      refine lv_icmp_ge (tgt := 105) hx hb dX3_readNumber_28 (by decide) (fun c28 => ?_) (fun c28 => ?_)
      · have hM := g_pos c28 hM
        obtain ⟨rfl, rfl⟩ := si2 hM
        exact K _ _ _ hP hD hS (lv_sub hl [0, 2, 3, 4] rfl)
      · have hM := g_neg c28 hM
        refine lv_iload hx hb dX3_readNumber_31 (lv_at hl 5 rfl) ?_
        refine lv_if_lt (tgt := 105) hx hb dX3_readNumber_33 (by decide) (fun c33 => ?_) (fun c33 => ?_)
        · have hM := g_pos c33 hM
          obtain ⟨rfl, rfl⟩ := si2 hM
          exact K _ _ _ hP hD hS (lv_sub hl [0, 2, 3, 4] rfl)
        · have hM := g_neg c33 hM
          refine lv_iload hx hb dX3_readNumber_36 (lv_at hl 5 rfl) ?_
          refine lv_aload_n hx hb dX3_readNumber_38 rfl (lv_at hl 1 rfl) ?_
          refine va_alen (v := 500) hx hb hK hP 1 1 rfl rfl rfl dX3_readNumber_39 ?_
          refine lv_icmp_ge (tgt := 105) hx hb dX3_readNumber_40 (by decide) (fun c40 => ?_) (fun c40 => ?_)
          · have hM := g_pos c40 hM
            obtain ⟨rfl, rfl⟩ := si2 hM
            exact K _ _ _ hP hD hS (lv_sub hl [0, 2, 3, 4] rfl)
          · have hM := g_neg c40 hM
            refine lv_aload_n hx hb dX3_readNumber_43 rfl (lv_at hl 1 rfl) ?_
            refine lv_iload hx hb dX3_readNumber_44 (lv_at hl 5 rfl) ?_
            obtain ⟨h46, hM⟩ := gi_some hM
            refine va_cald hx hb hK hP 1 1 rfl rfl h46 dX3_readNumber_46 ?_
            refine lv_bipush (v := 48) hx hb dX3_readNumber_47 (by decide) ?_
            refine lv_icmp_lt (tgt := 105) hx hb dX3_readNumber_49 (by decide) (fun c49 => ?_) (fun c49 => ?_)
            · have hM := g_pos c49 hM
              obtain ⟨rfl, rfl⟩ := si2 hM
              exact K _ _ _ hP hD hS (lv_sub hl [0, 2, 3, 4] rfl)
            · have hM := g_neg c49 hM
              refine lv_aload_n hx hb dX3_readNumber_52 rfl (lv_at hl 1 rfl) ?_
              refine lv_iload hx hb dX3_readNumber_53 (lv_at hl 5 rfl) ?_
              obtain ⟨h55, hM⟩ := gi_some hM
              refine va_cald hx hb hK hP 1 1 rfl rfl h55 dX3_readNumber_55 ?_
              refine lv_bipush (v := 57) hx hb dX3_readNumber_56 (by decide) ?_
              refine lv_icmp_gt (tgt := 105) hx hb dX3_readNumber_58 (by decide) (fun c58 => ?_) (fun c58 => ?_)
              · have hM := g_pos c58 hM
                obtain ⟨rfl, rfl⟩ := si2 hM
                exact K _ _ _ hP hD hS (lv_sub hl [0, 2, 3, 4] rfl)
              · have hM := g_neg c58 hM
                refine lv_aload_n hx hb dX3_readNumber_61 rfl (lv_at hl 0 rfl) ?_
                refine va_get (D := D) (ci := 3) (v := .int v_at_22) (C := RX3) (T := TX3) (N := 5) hx hb hts iX3 hown hK hP 0 rfl rfl 2 (by decide) k18 (fun _ h9 => h9) rfl dX3_readNumber_62 ?_
                refine lv_aload_n hx hb dX3_readNumber_65 rfl (lv_at hl 0 rfl) ?_
                refine va_get (D := D) (ci := 3) (v := .int v_at_2) (C := RX3) (T := TX3) (N := 5) hx hb hts iX3 hown hK hP 0 rfl rfl 4 (by decide) k74 (fun _ h9 => h9) rfl dX3_readNumber_66 ?_
                refine lv_isub hx hb dX3_readNumber_69 ?_
                refine lv_iconst (v := 4) hx hb dX3_readNumber_70 (by decide) ?_
                refine lv_icmp_ge (tgt := 89) hx hb dX3_readNumber_71 (by decide) (fun c71 => ?_) (fun c71 => ?_)
                · have hM := g_pos c71 hM
                  refine lv_aload_n hx hb dX3_readNumber_89 rfl (lv_at hl 0 rfl) ?_
                  refine lv_dup hx hb dX3_readNumber_90 rfl ?_
                  refine va_get (D := D) (ci := 3) (v := .int v_at_22) (C := RX3) (T := TX3) (N := 5) hx hb hts iX3 hown hK hP 0 rfl rfl 2 (by decide) k18 (fun _ h9 => h9) rfl dX3_readNumber_91 ?_
                  refine lv_iconst (v := 1) hx hb dX3_readNumber_94 (by decide) ?_
                  refine lv_iadd hx hb dX3_readNumber_95 ?_
                  refine va_put (D := D) (ci := 3) (v := .int (v_at_22 + (1 : Int32))) (ty := .int) (C := RX3) (T := TX3) (N := 5) hx hb hts iX3 tyX3 tyX3_ok nmX3 hown hK hP hD hS 0 rfl rfl 2 (by decide) k18 (fun _ h9 => h9) rfl (by decide +kernel) rfl rfl (Nat.le_of_ble_eq_true rfl) dX3_readNumber_96 (fun H locs hP hD hS => ?_)
                  have hP : va_P D vwCl [(h0, .inr (3, [.int v_faultKind, .int v_faultAt, .int (v_at_22 + (1 : Int32)), .int v_length, .int v_at_2])), (g1, .inl (cy 1, 500, .inl w1))] H := hP
                  have hD : va_D A [(h0, .inr (3, [.int v_faultKind, .int v_faultAt, .int (v_at_22 + (1 : Int32)), .int v_length, .int v_at_2])), (g1, .inl (cy 1, 500, .inl w1))] := hD
                  refine lv_iinc (v := x5_22 + (1 : Int32)) (lv' := [(5, .int (x5_22 + (1 : Int32))), (0, .ref h0), (1, .ref g1), (2, .int p2), (3, .int p3), (4, .int x4_22)]) hx hb dX3_readNumber_99 hl (k := 5) rfl rfl (by decide) rfl (fun ls hl => ?_)
                  refine lv_goto (tgt := 22) hx hb dX3_readNumber_102 (by decide) ?_
                  exact ih x4_22 (x5_22 + (1 : Int32)) (v_at_22 + (1 : Int32)) e4_22 v_at_e22 _ _ _ hM hP hD hS (lv_sub hl [1, 2, 3, 4, 5, 0] rfl) K
                · have hM := g_neg c71 hM
                  refine lv_bipush (v := 10) hx hb dX3_readNumber_74 (by decide) ?_
                  refine lv_iload hx hb dX3_readNumber_76 (lv_at hl 4 rfl) ?_
                  refine lv_imul hx hb dX3_readNumber_78 ?_
                  refine lv_aload_n hx hb dX3_readNumber_79 rfl (lv_at hl 1 rfl) ?_
                  refine lv_iload hx hb dX3_readNumber_80 (lv_at hl 5 rfl) ?_
                  obtain ⟨h82, hM⟩ := gi_some hM
                  refine va_cald hx hb hK hP 1 1 rfl rfl h82 dX3_readNumber_82 ?_
                  refine lv_bipush (v := 48) hx hb dX3_readNumber_83 (by decide) ?_
                  refine lv_isub hx hb dX3_readNumber_85 ?_
                  refine lv_iadd hx hb dX3_readNumber_86 ?_
                  refine lv_istore (lv' := [(4, .int (((10 : Int32) * x4_22) + ((w1 x5_22.toNatClampNeg) - (48 : Int32)))), (0, .ref h0), (1, .ref g1), (2, .int p2), (3, .int p3), (5, .int x5_22)]) hx hb dX3_readNumber_87 hl (by decide) rfl (fun ls hl => ?_)
                  refine lv_aload_n hx hb dX3_readNumber_89 rfl (lv_at hl 1 rfl) ?_
                  refine lv_dup hx hb dX3_readNumber_90 rfl ?_
                  refine va_get (D := D) (ci := 3) (v := .int v_at_22) (C := RX3) (T := TX3) (N := 5) hx hb hts iX3 hown hK hP 0 rfl rfl 2 (by decide) k18 (fun _ h9 => h9) rfl dX3_readNumber_91 ?_
                  refine lv_iconst (v := 1) hx hb dX3_readNumber_94 (by decide) ?_
                  refine lv_iadd hx hb dX3_readNumber_95 ?_
                  refine va_put (D := D) (ci := 3) (v := .int (v_at_22 + (1 : Int32))) (ty := .int) (C := RX3) (T := TX3) (N := 5) hx hb hts iX3 tyX3 tyX3_ok nmX3 hown hK hP hD hS 0 rfl rfl 2 (by decide) k18 (fun _ h9 => h9) rfl (by decide +kernel) rfl rfl (Nat.le_of_ble_eq_true rfl) dX3_readNumber_96 (fun H locs hP hD hS => ?_)
                  have hP : va_P D vwCl [(h0, .inr (3, [.int v_faultKind, .int v_faultAt, .int (v_at_22 + (1 : Int32)), .int v_length, .int v_at_2])), (g1, .inl (cy 1, 500, .inl w1))] H := hP
                  have hD : va_D A [(h0, .inr (3, [.int v_faultKind, .int v_faultAt, .int (v_at_22 + (1 : Int32)), .int v_length, .int v_at_2])), (g1, .inl (cy 1, 500, .inl w1))] := hD
                  refine lv_iinc (v := x5_22 + (1 : Int32)) (lv' := [(5, .int (x5_22 + (1 : Int32))), (4, .int (((10 : Int32) * x4_22) + ((w1 x5_22.toNatClampNeg) - (48 : Int32)))), (0, .ref h0), (1, .ref g1), (2, .int p2), (3, .int p3)]) hx hb dX3_readNumber_99 hl (k := 5) rfl rfl (by decide) rfl (fun ls hl => ?_)
                  refine lv_goto (tgt := 22) hx hb dX3_readNumber_102 (by decide) ?_
                  exact ih (((10 : Int32) * x4_22) + ((w1 x5_22.toNatClampNeg) - (48 : Int32))) (x5_22 + (1 : Int32)) (v_at_22 + (1 : Int32)) e4_22 v_at_e22 _ _ _ hM hP hD hS (lv_sub hl [2, 3, 4, 5, 1, 0] rfl) K
  obtain ⟨e4_22, v_at_e22, hL22, hM⟩ := ob2_some hM
  refine L22 N (0 : Int32) v_at_2 v_at_2 e4_22 v_at_e22 _ _ _ hL22 hP hD hS (lv_sub hl [2, 3, 4, 5, 1, 0] rfl) ?_
  intro H locs ls hP hD hS hl
  refine lv_aload_n hx hb dX3_readNumber_105 rfl (lv_at hl 0 rfl) ?_
  refine va_get (D := D) (ci := 3) (v := .int v_at_e22) (C := RX3) (T := TX3) (N := 5) hx hb hts iX3 hown hK hP 0 rfl rfl 2 (by decide) k18 (fun _ h9 => h9) rfl dX3_readNumber_106 ?_
  refine lv_aload_n hx hb dX3_readNumber_109 rfl (lv_at hl 0 rfl) ?_
  refine va_get (D := D) (ci := 3) (v := .int v_at_2) (C := RX3) (T := TX3) (N := 5) hx hb hts iX3 hown hK hP 0 rfl rfl 4 (by decide) k74 (fun _ h9 => h9) rfl dX3_readNumber_110 ?_
  refine lv_icmp_ne (tgt := 128) hx hb dX3_readNumber_113 (by decide) (fun c113 => ?_) (fun c113 => ?_)
  · have hM := g_neg c113 hM
    refine lv_aload_n hx hb dX3_readNumber_128 rfl (lv_at hl 0 rfl) ?_
    refine va_get (D := D) (ci := 3) (v := .int v_at_e22) (C := RX3) (T := TX3) (N := 5) hx hb hts iX3 hown hK hP 0 rfl rfl 2 (by decide) k18 (fun _ h9 => h9) rfl dX3_readNumber_129 ?_
    refine lv_aload_n hx hb dX3_readNumber_132 rfl (lv_at hl 0 rfl) ?_
    refine va_get (D := D) (ci := 3) (v := .int v_at_2) (C := RX3) (T := TX3) (N := 5) hx hb hts iX3 hown hK hP 0 rfl rfl 4 (by decide) k74 (fun _ h9 => h9) rfl dX3_readNumber_133 ?_
    refine lv_isub hx hb dX3_readNumber_136 ?_
    refine lv_iconst (v := 3) hx hb dX3_readNumber_137 (by decide) ?_
    refine lv_icmp_gt (tgt := 153) hx hb dX3_readNumber_138 (by decide) (fun c138 => ?_) (fun c138 => ?_)
    · have hM := g_pos c138 hM
      refine lv_aload_n hx hb dX3_readNumber_153 rfl (lv_at hl 0 rfl) ?_
      refine lv_iconst (v := 2) hx hb dX3_readNumber_154 (by decide) ?_
      refine lv_aload_n hx hb dX3_readNumber_155 rfl (lv_at hl 0 rfl) ?_
      refine va_get (D := D) (ci := 3) (v := .int v_at_2) (C := RX3) (T := TX3) (N := 5) hx hb hts iX3 hown hK hP 0 rfl rfl 4 (by decide) k74 (fun _ h9 => h9) rfl dX3_readNumber_156 ?_
      obtain ⟨v_faultKind_159, v_faultAt_159, hc159, hM⟩ := ob2_some hM
      refine cl_vv (As := [.int (2 : Int32), .int v_at_2]) (rest := []) (ci := 3) (q0 := 0) (wr := [(g1, .inl (cy 1, 500, .inl w1))]) (ws2 := [(h0, .inr (3, [.int v_faultKind_159, .int v_faultAt_159, .int v_at_e22, .int v_length, .int v_at_2])), (g1, .inl (cy 1, 500, .inl w1))]) (isC := [0]) (isR := [1]) (pm := [1, 0]) hx hb hml hown hts (c3_setFault l D cy N h0 (.int v_at_e22) (.int v_length) (.int v_at_2) (2 : Int32) v_at_2 v_faultKind v_faultAt v_faultKind_159 v_faultAt_159 hc159) (cwV 2 hts gX3_readNumber_X3_setFault rfl rfl rfl (by decide +kernel) ⟨Nat.le_of_ble_eq_true rfl, Nat.le_of_ble_eq_true rfl⟩) hK hP hD hS hA rfl rfl rfl rfl rfl (by decide) rfl rfl rfl hl.1 (Nat.le_of_ble_eq_true rfl) dX3_readNumber_159 ⟨Nat.zero_le _, Nat.zero_le _⟩ rfl rfl (fun H locs hP hD hS => ?_)
      refine lv_iload hx hb dX3_readNumber_162 (lv_at hl 3 rfl) ?_
      obtain ⟨rfl, rfl, rfl, rfl, rfl⟩ := si5 hM
      exact hret _ _ _ _ _ dX3_readNumber_164 rfl rfl hP hD hS
    · have hM := g_neg c138 hM
      refine lv_iload hx hb dX3_readNumber_141 (lv_at hl 3 rfl) ?_
      refine lv_iload_n hx hb dX3_readNumber_143 rfl (lv_at hl 1 rfl) ?_
      refine lv_icmp_lt (tgt := 153) hx hb dX3_readNumber_144 (by decide) (fun c144 => ?_) (fun c144 => ?_)
      · have hM := g_pos c144 hM
        refine lv_aload_n hx hb dX3_readNumber_153 rfl (lv_at hl 0 rfl) ?_
        refine lv_iconst (v := 2) hx hb dX3_readNumber_154 (by decide) ?_
        refine lv_aload_n hx hb dX3_readNumber_155 rfl (lv_at hl 0 rfl) ?_
        refine va_get (D := D) (ci := 3) (v := .int v_at_2) (C := RX3) (T := TX3) (N := 5) hx hb hts iX3 hown hK hP 0 rfl rfl 4 (by decide) k74 (fun _ h9 => h9) rfl dX3_readNumber_156 ?_
        obtain ⟨v_faultKind_159, v_faultAt_159, hc159, hM⟩ := ob2_some hM
        refine cl_vv (As := [.int (2 : Int32), .int v_at_2]) (rest := []) (ci := 3) (q0 := 0) (wr := [(g1, .inl (cy 1, 500, .inl w1))]) (ws2 := [(h0, .inr (3, [.int v_faultKind_159, .int v_faultAt_159, .int v_at_e22, .int v_length, .int v_at_2])), (g1, .inl (cy 1, 500, .inl w1))]) (isC := [0]) (isR := [1]) (pm := [1, 0]) hx hb hml hown hts (c3_setFault l D cy N h0 (.int v_at_e22) (.int v_length) (.int v_at_2) (2 : Int32) v_at_2 v_faultKind v_faultAt v_faultKind_159 v_faultAt_159 hc159) (cwV 2 hts gX3_readNumber_X3_setFault rfl rfl rfl (by decide +kernel) ⟨Nat.le_of_ble_eq_true rfl, Nat.le_of_ble_eq_true rfl⟩) hK hP hD hS hA rfl rfl rfl rfl rfl (by decide) rfl rfl rfl hl.1 (Nat.le_of_ble_eq_true rfl) dX3_readNumber_159 ⟨Nat.zero_le _, Nat.zero_le _⟩ rfl rfl (fun H locs hP hD hS => ?_)
        refine lv_iload hx hb dX3_readNumber_162 (lv_at hl 3 rfl) ?_
        obtain ⟨rfl, rfl, rfl, rfl, rfl⟩ := si5 hM
        exact hret _ _ _ _ _ dX3_readNumber_164 rfl rfl hP hD hS
      · have hM := g_neg c144 hM
        refine lv_iload hx hb dX3_readNumber_147 (lv_at hl 3 rfl) ?_
        refine lv_iload_n hx hb dX3_readNumber_149 rfl (lv_at hl 2 rfl) ?_
        refine lv_icmp_le (tgt := 162) hx hb dX3_readNumber_150 (by decide) (fun c150 => ?_) (fun c150 => ?_)
        · have hM := g_pos c150 hM
          refine lv_iload hx hb dX3_readNumber_162 (lv_at hl 3 rfl) ?_
          obtain ⟨rfl, rfl, rfl, rfl, rfl⟩ := si5 hM
          exact hret _ _ _ _ _ dX3_readNumber_164 rfl rfl hP hD hS
        · have hM := g_neg c150 hM
          refine lv_aload_n hx hb dX3_readNumber_153 rfl (lv_at hl 0 rfl) ?_
          refine lv_iconst (v := 2) hx hb dX3_readNumber_154 (by decide) ?_
          refine lv_aload_n hx hb dX3_readNumber_155 rfl (lv_at hl 0 rfl) ?_
          refine va_get (D := D) (ci := 3) (v := .int v_at_2) (C := RX3) (T := TX3) (N := 5) hx hb hts iX3 hown hK hP 0 rfl rfl 4 (by decide) k74 (fun _ h9 => h9) rfl dX3_readNumber_156 ?_
          obtain ⟨v_faultKind_159, v_faultAt_159, hc159, hM⟩ := ob2_some hM
          refine cl_vv (As := [.int (2 : Int32), .int v_at_2]) (rest := []) (ci := 3) (q0 := 0) (wr := [(g1, .inl (cy 1, 500, .inl w1))]) (ws2 := [(h0, .inr (3, [.int v_faultKind_159, .int v_faultAt_159, .int v_at_e22, .int v_length, .int v_at_2])), (g1, .inl (cy 1, 500, .inl w1))]) (isC := [0]) (isR := [1]) (pm := [1, 0]) hx hb hml hown hts (c3_setFault l D cy N h0 (.int v_at_e22) (.int v_length) (.int v_at_2) (2 : Int32) v_at_2 v_faultKind v_faultAt v_faultKind_159 v_faultAt_159 hc159) (cwV 2 hts gX3_readNumber_X3_setFault rfl rfl rfl (by decide +kernel) ⟨Nat.le_of_ble_eq_true rfl, Nat.le_of_ble_eq_true rfl⟩) hK hP hD hS hA rfl rfl rfl rfl rfl (by decide) rfl rfl rfl hl.1 (Nat.le_of_ble_eq_true rfl) dX3_readNumber_159 ⟨Nat.zero_le _, Nat.zero_le _⟩ rfl rfl (fun H locs hP hD hS => ?_)
          refine lv_iload hx hb dX3_readNumber_162 (lv_at hl 3 rfl) ?_
          obtain ⟨rfl, rfl, rfl, rfl, rfl⟩ := si5 hM
          exact hret _ _ _ _ _ dX3_readNumber_164 rfl rfl hP hD hS
  · have hM := g_pos c113 hM
    refine lv_aload_n hx hb dX3_readNumber_116 rfl (lv_at hl 0 rfl) ?_
    refine lv_iconst (v := 1) hx hb dX3_readNumber_117 (by decide) ?_
    refine lv_aload_n hx hb dX3_readNumber_118 rfl (lv_at hl 0 rfl) ?_
    refine va_get (D := D) (ci := 3) (v := .int v_at_2) (C := RX3) (T := TX3) (N := 5) hx hb hts iX3 hown hK hP 0 rfl rfl 4 (by decide) k74 (fun _ h9 => h9) rfl dX3_readNumber_119 ?_
    obtain ⟨v_faultKind_122, v_faultAt_122, hc122, hM⟩ := ob2_some hM
    refine cl_vv (As := [.int (1 : Int32), .int v_at_2]) (rest := []) (ci := 3) (q0 := 0) (wr := [(g1, .inl (cy 1, 500, .inl w1))]) (ws2 := [(h0, .inr (3, [.int v_faultKind_122, .int v_faultAt_122, .int v_at_e22, .int v_length, .int v_at_2])), (g1, .inl (cy 1, 500, .inl w1))]) (isC := [0]) (isR := [1]) (pm := [1, 0]) hx hb hml hown hts (c3_setFault l D cy N h0 (.int v_at_e22) (.int v_length) (.int v_at_2) (1 : Int32) v_at_2 v_faultKind v_faultAt v_faultKind_122 v_faultAt_122 hc122) (cwV 2 hts gX3_readNumber_X3_setFault rfl rfl rfl (by decide +kernel) ⟨Nat.le_of_ble_eq_true rfl, Nat.le_of_ble_eq_true rfl⟩) hK hP hD hS hA rfl rfl rfl rfl rfl (by decide) rfl rfl rfl hl.1 (Nat.le_of_ble_eq_true rfl) dX3_readNumber_122 ⟨Nat.zero_le _, Nat.zero_le _⟩ rfl rfl (fun H locs hP hD hS => ?_)
    refine lv_goto (tgt := 162) hx hb dX3_readNumber_125 (by decide) ?_
    refine lv_iload hx hb dX3_readNumber_162 (lv_at hl 3 rfl) ?_
    obtain ⟨rfl, rfl, rfl, rfl, rfl⟩ := si5 hM
    exact hret _ _ _ _ _ dX3_readNumber_164 rfl rfl hP hD hS

-- ===== X3_readEnd readEnd ([C)V =====
abbrev r3_readEnd : Room := { frames := 1, cells := 0, slots := 0, locals := 22 }
def f3_readEnd (N : Nat) (v_faultKind : Int32) (v_faultAt : Int32) (v_at : Int32) (v_length : Int32) (w1 : Nat → Int32) : Option (Int32 × Int32 × Int32) :=
  ob1 (f3_skipBlanks N v_at v_length w1) fun v_at_2 => if v_at_2 < (0 : Int32) then (ob2 (f3_setFault N (1 : Int32) v_at_2 v_faultKind v_faultAt) fun v_faultKind_62 v_faultAt_62 => some (v_faultKind_62, v_faultAt_62, v_at_2)) else (if v_length ≤ v_at_2 then (ob2 (f3_setFault N (1 : Int32) v_at_2 v_faultKind v_faultAt) fun v_faultKind_62 v_faultAt_62 => some (v_faultKind_62, v_faultAt_62, v_at_2)) else (if (500 : Int32) ≤ v_at_2 then (ob2 (f3_setFault N (1 : Int32) v_at_2 v_faultKind v_faultAt) fun v_faultKind_62 v_faultAt_62 => some (v_faultKind_62, v_faultAt_62, v_at_2)) else (gi v_at_2 500 (if (w1 v_at_2.toNatClampNeg) = (59 : Int32) then (some (v_faultKind, v_faultAt, (v_at_2 + (1 : Int32)))) else (ob2 (f3_setFault N (1 : Int32) v_at_2 v_faultKind v_faultAt) fun v_faultKind_62 v_faultAt_62 => some (v_faultKind_62, v_faultAt_62, v_at_2))))))
set_option maxHeartbeats 4000000 in
set_option maxRecDepth 100000 in
theorem c3_readEnd (l : Launch) (D : va_G) (cy : Nat → ClassId) (N : Nat) (h0 g1 : Nat) (oh0_4 : Value) (v_faultKind : Int32) (v_faultAt : Int32) (v_at : Int32) (v_length : Int32) (w1 : Nat → Int32) (nv_faultKind : Int32) (nv_faultAt : Int32) (nv_at : Int32) (hM : f3_readEnd N v_faultKind v_faultAt v_at v_length w1 = some (nv_faultKind, nv_faultAt, nv_at)) (sz : Nat) : CTv l yX3_readEnd wsX3_readEnd r3_readEnd [.ref h0, .ref g1] D cy sz [(h0, .inr (3, [.int v_faultKind, .int v_faultAt, .int v_at, .int v_length, oh0_4])), (g1, .inl (cy 1, 500, .inl w1))] [(h0, .inr (3, [.int nv_faultKind, .int nv_faultAt, .int nv_at, .int v_length, oh0_4])), (g1, .inl (cy 1, 500, .inl w1))] := by
  unfold f3_readEnd at hM
  refine ct_ov (cc := cX3_readEnd) (maxL := 2)  (by decide +kernel) rfl (Nat.le_of_ble_eq_true rfl) (lv0 := [(0, .ref h0), (1, .ref g1)]) rfl ?_
  intro p e s m args below meth c A Q ls hx hb hts hown hml hK hP hD hS hA hret hl
  have hown : s.vm.findClass RX3 = some m.cls := hown
  have k18 := hts (.fieldLink RX3 18 "CaveYears$Reader" "at" "I") (List.mem_of_getElem? (i := 1) rfl)
  have iX3 := (fun w h => (List.mem_cons_of_mem _ (List.mem_append_right _ h)) : ∀ w ∈ wsX30, w ∈ wsX3_readEnd)
  have k27 := hts (.fieldLink RX3 27 "CaveYears$Reader" "length" "I") (List.mem_of_getElem? (i := 2) rfl)
  refine lv_aload_n hx hb dX3_readEnd_0 rfl (lv_at hl 0 rfl) ?_
  refine lv_aload_n hx hb dX3_readEnd_1 rfl (lv_at hl 1 rfl) ?_
  obtain ⟨v_at_2, hc2, hM⟩ := ob1_some hM
  refine cl_vv (As := [.ref g1]) (rest := []) (ci := 3) (q0 := 0) (wr := []) (ws2 := [(h0, .inr (3, [.int v_faultKind, .int v_faultAt, .int v_at_2, .int v_length, oh0_4])), (g1, .inl (cy 1, 500, .inl w1))]) (isC := [0, 1]) (isR := []) (pm := [0, 1]) hx hb hml hown hts (c3_skipBlanks l D cy N h0 g1 (.int v_faultKind) (.int v_faultAt) oh0_4 v_at v_length w1 v_at_2 hc2) (cwV 1 hts gX3_readEnd_X3_skipBlanks rfl rfl rfl (by decide +kernel) ⟨Nat.le_of_ble_eq_true rfl, Nat.le_of_ble_eq_true rfl⟩) hK hP hD hS hA rfl rfl rfl rfl rfl (by decide) rfl rfl rfl hl.1 (Nat.le_of_ble_eq_true rfl) dX3_readEnd_2 ⟨Nat.zero_le _, Nat.zero_le _⟩ rfl rfl (fun H locs hP hD hS => ?_)
  refine lv_aload_n hx hb dX3_readEnd_5 rfl (lv_at hl 0 rfl) ?_
  refine va_get (D := D) (ci := 3) (v := .int v_at_2) (C := RX3) (T := TX3) (N := 5) hx hb hts iX3 hown hK hP 0 rfl rfl 2 (by decide) k18 (fun _ h9 => h9) rfl dX3_readEnd_6 ?_
  refine lv_if_lt (tgt := 56) hx hb dX3_readEnd_9 (by decide) (fun c9 => ?_) (fun c9 => ?_)
  · have hM := g_pos c9 hM
    refine lv_aload_n hx hb dX3_readEnd_56 rfl (lv_at hl 0 rfl) ?_
    refine lv_iconst (v := 1) hx hb dX3_readEnd_57 (by decide) ?_
    refine lv_aload_n hx hb dX3_readEnd_58 rfl (lv_at hl 0 rfl) ?_
    refine va_get (D := D) (ci := 3) (v := .int v_at_2) (C := RX3) (T := TX3) (N := 5) hx hb hts iX3 hown hK hP 0 rfl rfl 2 (by decide) k18 (fun _ h9 => h9) rfl dX3_readEnd_59 ?_
    obtain ⟨v_faultKind_62, v_faultAt_62, hc62, hM⟩ := ob2_some hM
    refine cl_vv (As := [.int (1 : Int32), .int v_at_2]) (rest := []) (ci := 3) (q0 := 0) (wr := [(g1, .inl (cy 1, 500, .inl w1))]) (ws2 := [(h0, .inr (3, [.int v_faultKind_62, .int v_faultAt_62, .int v_at_2, .int v_length, oh0_4])), (g1, .inl (cy 1, 500, .inl w1))]) (isC := [0]) (isR := [1]) (pm := [1, 0]) hx hb hml hown hts (c3_setFault l D cy N h0 (.int v_at_2) (.int v_length) oh0_4 (1 : Int32) v_at_2 v_faultKind v_faultAt v_faultKind_62 v_faultAt_62 hc62) (cwV 2 hts gX3_readEnd_X3_setFault rfl rfl rfl (by decide +kernel) ⟨Nat.le_of_ble_eq_true rfl, Nat.le_of_ble_eq_true rfl⟩) hK hP hD hS hA rfl rfl rfl rfl rfl (by decide) rfl rfl rfl hl.1 (Nat.le_of_ble_eq_true rfl) dX3_readEnd_62 ⟨Nat.zero_le _, Nat.zero_le _⟩ rfl rfl (fun H locs hP hD hS => ?_)
    obtain ⟨rfl, rfl, rfl⟩ := si3 hM
    exact hret _ _ _ _ dX3_readEnd_65 hP hD hS
  · have hM := g_neg c9 hM
    refine lv_aload_n hx hb dX3_readEnd_12 rfl (lv_at hl 0 rfl) ?_
    refine va_get (D := D) (ci := 3) (v := .int v_at_2) (C := RX3) (T := TX3) (N := 5) hx hb hts iX3 hown hK hP 0 rfl rfl 2 (by decide) k18 (fun _ h9 => h9) rfl dX3_readEnd_13 ?_
    refine lv_aload_n hx hb dX3_readEnd_16 rfl (lv_at hl 0 rfl) ?_
    refine va_get (D := D) (ci := 3) (v := .int v_length) (C := RX3) (T := TX3) (N := 5) hx hb hts iX3 hown hK hP 0 rfl rfl 3 (by decide) k27 (fun _ h9 => h9) rfl dX3_readEnd_17 ?_
    refine lv_icmp_ge (tgt := 56) hx hb dX3_readEnd_20 (by decide) (fun c20 => ?_) (fun c20 => ?_)
    · have hM := g_pos c20 hM
      refine lv_aload_n hx hb dX3_readEnd_56 rfl (lv_at hl 0 rfl) ?_
      refine lv_iconst (v := 1) hx hb dX3_readEnd_57 (by decide) ?_
      refine lv_aload_n hx hb dX3_readEnd_58 rfl (lv_at hl 0 rfl) ?_
      refine va_get (D := D) (ci := 3) (v := .int v_at_2) (C := RX3) (T := TX3) (N := 5) hx hb hts iX3 hown hK hP 0 rfl rfl 2 (by decide) k18 (fun _ h9 => h9) rfl dX3_readEnd_59 ?_
      obtain ⟨v_faultKind_62, v_faultAt_62, hc62, hM⟩ := ob2_some hM
      refine cl_vv (As := [.int (1 : Int32), .int v_at_2]) (rest := []) (ci := 3) (q0 := 0) (wr := [(g1, .inl (cy 1, 500, .inl w1))]) (ws2 := [(h0, .inr (3, [.int v_faultKind_62, .int v_faultAt_62, .int v_at_2, .int v_length, oh0_4])), (g1, .inl (cy 1, 500, .inl w1))]) (isC := [0]) (isR := [1]) (pm := [1, 0]) hx hb hml hown hts (c3_setFault l D cy N h0 (.int v_at_2) (.int v_length) oh0_4 (1 : Int32) v_at_2 v_faultKind v_faultAt v_faultKind_62 v_faultAt_62 hc62) (cwV 2 hts gX3_readEnd_X3_setFault rfl rfl rfl (by decide +kernel) ⟨Nat.le_of_ble_eq_true rfl, Nat.le_of_ble_eq_true rfl⟩) hK hP hD hS hA rfl rfl rfl rfl rfl (by decide) rfl rfl rfl hl.1 (Nat.le_of_ble_eq_true rfl) dX3_readEnd_62 ⟨Nat.zero_le _, Nat.zero_le _⟩ rfl rfl (fun H locs hP hD hS => ?_)
      obtain ⟨rfl, rfl, rfl⟩ := si3 hM
      exact hret _ _ _ _ dX3_readEnd_65 hP hD hS
    · have hM := g_neg c20 hM
      refine lv_aload_n hx hb dX3_readEnd_23 rfl (lv_at hl 0 rfl) ?_
      refine va_get (D := D) (ci := 3) (v := .int v_at_2) (C := RX3) (T := TX3) (N := 5) hx hb hts iX3 hown hK hP 0 rfl rfl 2 (by decide) k18 (fun _ h9 => h9) rfl dX3_readEnd_24 ?_
      refine lv_aload_n hx hb dX3_readEnd_27 rfl (lv_at hl 1 rfl) ?_
      refine va_alen (v := 500) hx hb hK hP 1 1 rfl rfl rfl dX3_readEnd_28 ?_
      refine lv_icmp_ge (tgt := 56) hx hb dX3_readEnd_29 (by decide) (fun c29 => ?_) (fun c29 => ?_)
      · have hM := g_pos c29 hM
        refine lv_aload_n hx hb dX3_readEnd_56 rfl (lv_at hl 0 rfl) ?_
        refine lv_iconst (v := 1) hx hb dX3_readEnd_57 (by decide) ?_
        refine lv_aload_n hx hb dX3_readEnd_58 rfl (lv_at hl 0 rfl) ?_
        refine va_get (D := D) (ci := 3) (v := .int v_at_2) (C := RX3) (T := TX3) (N := 5) hx hb hts iX3 hown hK hP 0 rfl rfl 2 (by decide) k18 (fun _ h9 => h9) rfl dX3_readEnd_59 ?_
        obtain ⟨v_faultKind_62, v_faultAt_62, hc62, hM⟩ := ob2_some hM
        refine cl_vv (As := [.int (1 : Int32), .int v_at_2]) (rest := []) (ci := 3) (q0 := 0) (wr := [(g1, .inl (cy 1, 500, .inl w1))]) (ws2 := [(h0, .inr (3, [.int v_faultKind_62, .int v_faultAt_62, .int v_at_2, .int v_length, oh0_4])), (g1, .inl (cy 1, 500, .inl w1))]) (isC := [0]) (isR := [1]) (pm := [1, 0]) hx hb hml hown hts (c3_setFault l D cy N h0 (.int v_at_2) (.int v_length) oh0_4 (1 : Int32) v_at_2 v_faultKind v_faultAt v_faultKind_62 v_faultAt_62 hc62) (cwV 2 hts gX3_readEnd_X3_setFault rfl rfl rfl (by decide +kernel) ⟨Nat.le_of_ble_eq_true rfl, Nat.le_of_ble_eq_true rfl⟩) hK hP hD hS hA rfl rfl rfl rfl rfl (by decide) rfl rfl rfl hl.1 (Nat.le_of_ble_eq_true rfl) dX3_readEnd_62 ⟨Nat.zero_le _, Nat.zero_le _⟩ rfl rfl (fun H locs hP hD hS => ?_)
        obtain ⟨rfl, rfl, rfl⟩ := si3 hM
        exact hret _ _ _ _ dX3_readEnd_65 hP hD hS
      · have hM := g_neg c29 hM
        refine lv_aload_n hx hb dX3_readEnd_32 rfl (lv_at hl 1 rfl) ?_
        refine lv_aload_n hx hb dX3_readEnd_33 rfl (lv_at hl 0 rfl) ?_
        refine va_get (D := D) (ci := 3) (v := .int v_at_2) (C := RX3) (T := TX3) (N := 5) hx hb hts iX3 hown hK hP 0 rfl rfl 2 (by decide) k18 (fun _ h9 => h9) rfl dX3_readEnd_34 ?_
        obtain ⟨h37, hM⟩ := gi_some hM
        refine va_cald hx hb hK hP 1 1 rfl rfl h37 dX3_readEnd_37 ?_
        refine lv_bipush (v := 59) hx hb dX3_readEnd_38 (by decide) ?_
        refine lv_icmp_ne (tgt := 56) hx hb dX3_readEnd_40 (by decide) (fun c40 => ?_) (fun c40 => ?_)
        · have hM := g_neg c40 hM
          refine lv_aload_n hx hb dX3_readEnd_56 rfl (lv_at hl 0 rfl) ?_
          refine lv_iconst (v := 1) hx hb dX3_readEnd_57 (by decide) ?_
          refine lv_aload_n hx hb dX3_readEnd_58 rfl (lv_at hl 0 rfl) ?_
          refine va_get (D := D) (ci := 3) (v := .int v_at_2) (C := RX3) (T := TX3) (N := 5) hx hb hts iX3 hown hK hP 0 rfl rfl 2 (by decide) k18 (fun _ h9 => h9) rfl dX3_readEnd_59 ?_
          obtain ⟨v_faultKind_62, v_faultAt_62, hc62, hM⟩ := ob2_some hM
          refine cl_vv (As := [.int (1 : Int32), .int v_at_2]) (rest := []) (ci := 3) (q0 := 0) (wr := [(g1, .inl (cy 1, 500, .inl w1))]) (ws2 := [(h0, .inr (3, [.int v_faultKind_62, .int v_faultAt_62, .int v_at_2, .int v_length, oh0_4])), (g1, .inl (cy 1, 500, .inl w1))]) (isC := [0]) (isR := [1]) (pm := [1, 0]) hx hb hml hown hts (c3_setFault l D cy N h0 (.int v_at_2) (.int v_length) oh0_4 (1 : Int32) v_at_2 v_faultKind v_faultAt v_faultKind_62 v_faultAt_62 hc62) (cwV 2 hts gX3_readEnd_X3_setFault rfl rfl rfl (by decide +kernel) ⟨Nat.le_of_ble_eq_true rfl, Nat.le_of_ble_eq_true rfl⟩) hK hP hD hS hA rfl rfl rfl rfl rfl (by decide) rfl rfl rfl hl.1 (Nat.le_of_ble_eq_true rfl) dX3_readEnd_62 ⟨Nat.zero_le _, Nat.zero_le _⟩ rfl rfl (fun H locs hP hD hS => ?_)
          obtain ⟨rfl, rfl, rfl⟩ := si3 hM
          exact hret _ _ _ _ dX3_readEnd_65 hP hD hS
        · have hM := g_pos c40 hM
          refine lv_aload_n hx hb dX3_readEnd_43 rfl (lv_at hl 0 rfl) ?_
          refine lv_dup hx hb dX3_readEnd_44 rfl ?_
          refine va_get (D := D) (ci := 3) (v := .int v_at_2) (C := RX3) (T := TX3) (N := 5) hx hb hts iX3 hown hK hP 0 rfl rfl 2 (by decide) k18 (fun _ h9 => h9) rfl dX3_readEnd_45 ?_
          refine lv_iconst (v := 1) hx hb dX3_readEnd_48 (by decide) ?_
          refine lv_iadd hx hb dX3_readEnd_49 ?_
          refine va_put (D := D) (ci := 3) (v := .int (v_at_2 + (1 : Int32))) (ty := .int) (C := RX3) (T := TX3) (N := 5) hx hb hts iX3 tyX3 tyX3_ok nmX3 hown hK hP hD hS 0 rfl rfl 2 (by decide) k18 (fun _ h9 => h9) rfl (by decide +kernel) rfl rfl (Nat.le_of_ble_eq_true rfl) dX3_readEnd_50 (fun H locs hP hD hS => ?_)
          have hP : va_P D vwCl [(h0, .inr (3, [.int v_faultKind, .int v_faultAt, .int (v_at_2 + (1 : Int32)), .int v_length, oh0_4])), (g1, .inl (cy 1, 500, .inl w1))] H := hP
          have hD : va_D A [(h0, .inr (3, [.int v_faultKind, .int v_faultAt, .int (v_at_2 + (1 : Int32)), .int v_length, oh0_4])), (g1, .inl (cy 1, 500, .inl w1))] := hD
          refine lv_goto (tgt := 65) hx hb dX3_readEnd_53 (by decide) ?_
          obtain ⟨rfl, rfl, rfl⟩ := si3 hM
          exact hret _ _ _ _ dX3_readEnd_65 hP hD hS

-- ===== X3_wordEnd wordEnd ([C)I =====
abbrev r3_wordEnd : Room := { frames := 0, cells := 0, slots := 0, locals := 0 }
def f3_wordEnd_L10 (N : Nat) (v_length : Int32) (w1 : Nat → Int32) : Nat → Int32 → Int32 → Option Int32
  | 0, _, _ => none
  | n + 1, x2_10, x3_10 => if v_length ≤ x3_10 then (some x2_10) else (if x3_10 < (0 : Int32) then (some x2_10) else (if (500 : Int32) ≤ x3_10 then (some x2_10) else (gi x3_10 500 (if (w1 x3_10.toNatClampNeg) < (97 : Int32) then (some x2_10) else (gi x3_10 500 (if (122 : Int32) < (w1 x3_10.toNatClampNeg) then (some x2_10) else ((f3_wordEnd_L10 N v_length w1 n) (x2_10 + (1 : Int32)) (x3_10 + (1 : Int32)))))))))
def f3_wordEnd (N : Nat) (v_at : Int32) (v_length : Int32) (w1 : Nat → Int32) : Option Int32 :=
  ob1 (f3_wordEnd_L10 N v_length w1 N v_at v_at) fun e2_10 => some e2_10
set_option maxHeartbeats 4000000 in
set_option maxRecDepth 100000 in
theorem c3_wordEnd (l : Launch) (D : va_G) (cy : Nat → ClassId) (N : Nat) (h0 g1 : Nat) (oh0_0 oh0_1 oh0_4 : Value) (v_at : Int32) (v_length : Int32) (w1 : Nat → Int32) (r : Int32) (hM : f3_wordEnd N v_at v_length w1 = some r) (sz : Nat) : CTi l yX3_wordEnd wsX3_wordEnd r3_wordEnd [.ref h0, .ref g1] D cy sz [(h0, .inr (3, [oh0_0, oh0_1, .int v_at, .int v_length, oh0_4])), (g1, .inl (cy 1, 500, .inl w1))] [(h0, .inr (3, [oh0_0, oh0_1, .int v_at, .int v_length, oh0_4])), (g1, .inl (cy 1, 500, .inl w1))] r := by
  unfold f3_wordEnd at hM
  refine ct_oi (cc := cX3_wordEnd) (maxL := 4) (ty := .int) (by decide +kernel) rfl (Nat.le_of_ble_eq_true rfl) (lv0 := [(0, .ref h0), (1, .ref g1)]) rfl ?_
  intro p e s m args below meth c A Q ls hx hb hts hown hml hK hP hD hS hA hret hl
  have hown : s.vm.findClass RX3 = some m.cls := hown
  have k18 := hts (.fieldLink RX3 18 "CaveYears$Reader" "at" "I") (List.mem_of_getElem? (i := 1) rfl)
  have iX3 := (fun w h => (List.mem_cons_of_mem _ (List.mem_append_right _ h)) : ∀ w ∈ wsX30, w ∈ wsX3_wordEnd)
  have k27 := hts (.fieldLink RX3 27 "CaveYears$Reader" "length" "I") (List.mem_of_getElem? (i := 2) rfl)
  refine lv_aload_n hx hb dX3_wordEnd_0 rfl (lv_at hl 0 rfl) ?_
  refine va_get (D := D) (ci := 3) (v := .int v_at) (C := RX3) (T := TX3) (N := 5) hx hb hts iX3 hown hK hP 0 rfl rfl 2 (by decide) k18 (fun _ h9 => h9) rfl dX3_wordEnd_1 ?_
  refine lv_istore_n (lv' := [(2, .int v_at), (0, .ref h0), (1, .ref g1)]) hx hb dX3_wordEnd_4 rfl hl (by decide) rfl (fun ls hl => ?_)
  refine lv_aload_n hx hb dX3_wordEnd_5 rfl (lv_at hl 1 rfl) ?_
  refine va_get (D := D) (ci := 3) (v := .int v_at) (C := RX3) (T := TX3) (N := 5) hx hb hts iX3 hown hK hP 0 rfl rfl 2 (by decide) k18 (fun _ h9 => h9) rfl dX3_wordEnd_6 ?_
  refine lv_istore_n (lv' := [(3, .int v_at), (2, .int v_at), (0, .ref h0), (1, .ref g1)]) hx hb dX3_wordEnd_9 rfl hl (by decide) rfl (fun ls hl => ?_)
  have L10 : ∀ (n : Nat) (x2_10 : Int32) (x3_10 : Int32) (e2_10 : Int32) (H : Heap) (locs : List Loc) (ls : Array Slot), f3_wordEnd_L10 N v_length w1 n x2_10 x3_10 = some e2_10 → va_P D vwCl [(h0, .inr (3, [oh0_0, oh0_1, .int v_at, .int v_length, oh0_4])), (g1, .inl (cy 1, 500, .inl w1))] H → va_D A [(h0, .inr (3, [oh0_0, oh0_1, .int v_at, .int v_length, oh0_4])), (g1, .inl (cy 1, 500, .inl w1))] → va_S A s.heap H locs → lv_has ls 4 [(0, .ref h0), (1, .ref g1), (2, .int x2_10), (3, .int x3_10)] → (∀ (H : Heap) (locs : List Loc) (ls : Array Slot), va_P D vwCl [(h0, .inr (3, [oh0_0, oh0_1, .int v_at, .int v_length, oh0_4])), (g1, .inl (cy 1, 500, .inl w1))] H → va_D A [(h0, .inr (3, [oh0_0, oh0_1, .int v_at, .int v_length, oh0_4])), (g1, .inl (cy 1, 500, .inl w1))] → va_S A s.heap H locs → lv_has ls 4 [(2, .int e2_10)] → W p l e r3_wordEnd s m args below meth c H locs 0 0 Q (F0 m 53 ls [])) → W p l e r3_wordEnd s m args below meth c H locs 0 0 Q (F0 m 10 ls []) := by
    intro n
    induction n with
    | zero =>
      intro x2_10 x3_10 e2_10 H locs ls hM
      exact absurd hM (by simp [f3_wordEnd_L10])
    | succ n ih =>
      intro x2_10 x3_10 e2_10 H locs ls hM hP hD hS hl K
      rw [f3_wordEnd_L10] at hM
      refine lv_iload_n hx hb dX3_wordEnd_10 rfl (lv_at hl 3 rfl) ?_
      refine lv_aload_n hx hb dX3_wordEnd_11 rfl (lv_at hl 0 rfl) ?_
      refine va_get (D := D) (ci := 3) (v := .int v_length) (C := RX3) (T := TX3) (N := 5) hx hb hts iX3 hown hK hP 0 rfl rfl 3 (by decide) k27 (fun _ h9 => h9) rfl dX3_wordEnd_12 ?_
      refine lv_icmp_ge (tgt := 53) hx hb dX3_wordEnd_15 (by decide) (fun c15 => ?_) (fun c15 => ?_)
      · have hM := g_pos c15 hM
        obtain rfl := si1 hM
        exact K _ _ _ hP hD hS (lv_sub hl [2] rfl)
      · have hM := g_neg c15 hM
        refine lv_iload_n hx hb dX3_wordEnd_18 rfl (lv_at hl 3 rfl) ?_
        refine lv_if_lt (tgt := 53) hx hb dX3_wordEnd_19 (by decide) (fun c19 => ?_) (fun c19 => ?_)
        · have hM := g_pos c19 hM
          obtain rfl := si1 hM
          exact K _ _ _ hP hD hS (lv_sub hl [2] rfl)
        · have hM := g_neg c19 hM
          refine lv_iload_n hx hb dX3_wordEnd_22 rfl (lv_at hl 3 rfl) ?_
          refine lv_aload_n hx hb dX3_wordEnd_23 rfl (lv_at hl 1 rfl) ?_
          refine va_alen (v := 500) hx hb hK hP 1 1 rfl rfl rfl dX3_wordEnd_24 ?_
          refine lv_icmp_ge (tgt := 53) hx hb dX3_wordEnd_25 (by decide) (fun c25 => ?_) (fun c25 => ?_)
          · have hM := g_pos c25 hM
            obtain rfl := si1 hM
            exact K _ _ _ hP hD hS (lv_sub hl [2] rfl)
          · have hM := g_neg c25 hM
            refine lv_aload_n hx hb dX3_wordEnd_28 rfl (lv_at hl 1 rfl) ?_
            refine lv_iload_n hx hb dX3_wordEnd_29 rfl (lv_at hl 3 rfl) ?_
            obtain ⟨h30, hM⟩ := gi_some hM
            refine va_cald hx hb hK hP 1 1 rfl rfl h30 dX3_wordEnd_30 ?_
            refine lv_bipush (v := 97) hx hb dX3_wordEnd_31 (by decide) ?_
            refine lv_icmp_lt (tgt := 53) hx hb dX3_wordEnd_33 (by decide) (fun c33 => ?_) (fun c33 => ?_)
            · have hM := g_pos c33 hM
              obtain rfl := si1 hM
              exact K _ _ _ hP hD hS (lv_sub hl [2] rfl)
            · have hM := g_neg c33 hM
              refine lv_aload_n hx hb dX3_wordEnd_36 rfl (lv_at hl 1 rfl) ?_
              refine lv_iload_n hx hb dX3_wordEnd_37 rfl (lv_at hl 3 rfl) ?_
              obtain ⟨h38, hM⟩ := gi_some hM
              refine va_cald hx hb hK hP 1 1 rfl rfl h38 dX3_wordEnd_38 ?_
              refine lv_bipush (v := 122) hx hb dX3_wordEnd_39 (by decide) ?_
              refine lv_icmp_gt (tgt := 53) hx hb dX3_wordEnd_41 (by decide) (fun c41 => ?_) (fun c41 => ?_)
              · have hM := g_pos c41 hM
                obtain rfl := si1 hM
                exact K _ _ _ hP hD hS (lv_sub hl [2] rfl)
              · have hM := g_neg c41 hM
                refine lv_iinc (v := x2_10 + (1 : Int32)) (lv' := [(2, .int (x2_10 + (1 : Int32))), (0, .ref h0), (1, .ref g1), (3, .int x3_10)]) hx hb dX3_wordEnd_44 hl (k := 2) rfl rfl (by decide) rfl (fun ls hl => ?_)
                refine lv_iinc (v := x3_10 + (1 : Int32)) (lv' := [(3, .int (x3_10 + (1 : Int32))), (2, .int (x2_10 + (1 : Int32))), (0, .ref h0), (1, .ref g1)]) hx hb dX3_wordEnd_47 hl (k := 3) rfl rfl (by decide) rfl (fun ls hl => ?_)
                refine lv_goto (tgt := 10) hx hb dX3_wordEnd_50 (by decide) ?_
                exact ih (x2_10 + (1 : Int32)) (x3_10 + (1 : Int32)) e2_10 _ _ _ hM hP hD hS (lv_sub hl [2, 3, 1, 0] rfl) K
  obtain ⟨e2_10, hL10, hM⟩ := ob1_some hM
  refine L10 N v_at v_at e2_10 _ _ _ hL10 hP hD hS (lv_sub hl [2, 3, 1, 0] rfl) ?_
  intro H locs ls hP hD hS hl
  refine lv_iload_n hx hb dX3_wordEnd_53 rfl (lv_at hl 0 rfl) ?_
  obtain rfl := si1 hM
  exact hret _ _ _ _ _ dX3_wordEnd_54 rfl rfl hP hD hS

-- ===== X3_isFull isFull (ILCaveYears$Cave;)Z =====
abbrev r3_isFull : Room := { frames := 0, cells := 0, slots := 0, locals := 0 }
def f3_isFull (N : Nat) (p1 : Int32) (w2_parts : Int32) (w2_ways : Int32) (w2_persons : Int32) (w2_interestTold : Int32) (w2_winters : Int32) : Option Int32 :=
  if p1 = (1 : Int32) then (if w2_parts < (7 : Int32) then (some (0 : Int32)) else (some (1 : Int32))) else (if p1 = (2 : Int32) then (some (0 : Int32)) else (if p1 = (3 : Int32) then (if w2_ways < (12 : Int32) then (some (0 : Int32)) else (some (1 : Int32))) else (if p1 = (4 : Int32) then (if w2_persons < (6 : Int32) then (some (0 : Int32)) else (some (1 : Int32))) else (if p1 = (5 : Int32) then (gb w2_interestTold (some w2_interestTold)) else (if p1 = (6 : Int32) then (if w2_winters < (5 : Int32) then (some (0 : Int32)) else (some (1 : Int32))) else (some (0 : Int32)))))))
set_option maxHeartbeats 4000000 in
set_option maxRecDepth 100000 in
theorem c3_isFull (l : Launch) (D : va_G) (cy : Nat → ClassId) (N : Nat) (g2 : Nat) (og2_1 og2_4 og2_7 og2_8 og2_9 og2_10 og2_11 og2_12 : Value) (p1 : Int32) (w2_parts : Int32) (w2_ways : Int32) (w2_persons : Int32) (w2_interestTold : Int32) (w2_winters : Int32) (r : Int32) (hM : f3_isFull N p1 w2_parts w2_ways w2_persons w2_interestTold w2_winters = some r) (sz : Nat) : CTi l yX3_isFull wsX3_isFull r3_isFull [.int p1, .ref g2] D cy sz [(g2, .inr (0, [.int w2_parts, og2_1, .int w2_ways, .int w2_persons, og2_4, .int w2_interestTold, .int w2_winters, og2_7, og2_8, og2_9, og2_10, og2_11, og2_12]))] [(g2, .inr (0, [.int w2_parts, og2_1, .int w2_ways, .int w2_persons, og2_4, .int w2_interestTold, .int w2_winters, og2_7, og2_8, og2_9, og2_10, og2_11, og2_12]))] r := by
  unfold f3_isFull at hM
  refine ct_oi (cc := cX3_isFull) (maxL := 2) (ty := .boolean) (by decide +kernel) rfl (Nat.le_of_ble_eq_true rfl) (lv0 := [(0, .int p1), (1, .ref g2)]) rfl ?_
  intro p e s m args below meth c A Q ls hx hb hts hown hml hK hP hD hS hA hret hl
  have hown : s.vm.findClass RX3 = some m.cls := hown
  have k126 := hts (.fieldLink RX3 126 "CaveYears$Cave" "winters" "I") (List.mem_of_getElem? (i := 5) rfl)
  have iX0 := (fun w h => (List.mem_cons_of_mem _ (List.mem_append_right _ h)) : ∀ w ∈ wsX00, w ∈ wsX3_isFull)
  have k122 := hts (.fieldLink RX3 122 "CaveYears$Cave" "interestTold" "Z") (List.mem_of_getElem? (i := 4) rfl)
  have k119 := hts (.fieldLink RX3 119 "CaveYears$Cave" "persons" "I") (List.mem_of_getElem? (i := 3) rfl)
  have k116 := hts (.fieldLink RX3 116 "CaveYears$Cave" "ways" "I") (List.mem_of_getElem? (i := 2) rfl)
  have k113 := hts (.fieldLink RX3 113 "CaveYears$Cave" "parts" "I") (List.mem_of_getElem? (i := 1) rfl)
  refine lv_iload_n hx hb dX3_isFull_0 rfl (lv_at hl 0 rfl) ?_
  rcases Classical.em (p1 = (1 : Int32)) with c1_1 | c1_1
  · have hM := g_pos c1_1 hM
    refine lv_tableIn (off := 39) (tgt := 40) hx hb dX3_isFull_1 (by rw [c1_1]; decide) (by rw [c1_1]; decide) (by rw [c1_1]; decide) (by decide) ?_
    refine lv_aload_n hx hb dX3_isFull_40 rfl (lv_at hl 1 rfl) ?_
    refine va_get (D := D) (ci := 0) (v := .int w2_parts) (C := RX0) (T := TX0) (N := 13) hx hb hts iX0 hown hK hP 0 rfl rfl 0 (by decide) k113 (fun _ h9 => h9) rfl dX3_isFull_41 ?_
    refine lv_bipush (v := 7) hx hb dX3_isFull_44 (by decide) ?_
    refine lv_icmp_lt (tgt := 53) hx hb dX3_isFull_46 (by decide) (fun c46 => ?_) (fun c46 => ?_)
    · have hM := g_pos c46 hM
      refine lv_iconst (v := 0) hx hb dX3_isFull_53 (by decide) ?_
      obtain rfl := si1 hM
      exact hret _ _ _ _ _ dX3_isFull_54 rfl rfl hP hD hS
    · have hM := g_neg c46 hM
      refine lv_iconst (v := 1) hx hb dX3_isFull_49 (by decide) ?_
      refine lv_goto (tgt := 54) hx hb dX3_isFull_50 (by decide) ?_
      obtain rfl := si1 hM
      exact hret _ _ _ _ _ dX3_isFull_54 rfl rfl hP hD hS
  · have hM := g_neg c1_1 hM
    rcases Classical.em (p1 = (2 : Int32)) with c1_2 | c1_2
    · have hM := g_pos c1_2 hM
      refine lv_tableIn (off := 103) (tgt := 104) hx hb dX3_isFull_1 (by rw [c1_2]; decide) (by rw [c1_2]; decide) (by rw [c1_2]; decide) (by decide) ?_
      refine lv_iconst (v := 0) hx hb dX3_isFull_104 (by decide) ?_
      obtain rfl := si1 hM
      exact hret _ _ _ _ _ dX3_isFull_105 rfl rfl hP hD hS
    · have hM := g_neg c1_2 hM
      rcases Classical.em (p1 = (3 : Int32)) with c1_3 | c1_3
      · have hM := g_pos c1_3 hM
        refine lv_tableIn (off := 54) (tgt := 55) hx hb dX3_isFull_1 (by rw [c1_3]; decide) (by rw [c1_3]; decide) (by rw [c1_3]; decide) (by decide) ?_
        refine lv_aload_n hx hb dX3_isFull_55 rfl (lv_at hl 1 rfl) ?_
        refine va_get (D := D) (ci := 0) (v := .int w2_ways) (C := RX0) (T := TX0) (N := 13) hx hb hts iX0 hown hK hP 0 rfl rfl 2 (by decide) k116 (fun _ h9 => h9) rfl dX3_isFull_56 ?_
        refine lv_bipush (v := 12) hx hb dX3_isFull_59 (by decide) ?_
        refine lv_icmp_lt (tgt := 68) hx hb dX3_isFull_61 (by decide) (fun c61 => ?_) (fun c61 => ?_)
        · have hM := g_pos c61 hM
          refine lv_iconst (v := 0) hx hb dX3_isFull_68 (by decide) ?_
          obtain rfl := si1 hM
          exact hret _ _ _ _ _ dX3_isFull_69 rfl rfl hP hD hS
        · have hM := g_neg c61 hM
          refine lv_iconst (v := 1) hx hb dX3_isFull_64 (by decide) ?_
          refine lv_goto (tgt := 69) hx hb dX3_isFull_65 (by decide) ?_
          obtain rfl := si1 hM
          exact hret _ _ _ _ _ dX3_isFull_69 rfl rfl hP hD hS
      · have hM := g_neg c1_3 hM
        rcases Classical.em (p1 = (4 : Int32)) with c1_4 | c1_4
        · have hM := g_pos c1_4 hM
          refine lv_tableIn (off := 69) (tgt := 70) hx hb dX3_isFull_1 (by rw [c1_4]; decide) (by rw [c1_4]; decide) (by rw [c1_4]; decide) (by decide) ?_
          refine lv_aload_n hx hb dX3_isFull_70 rfl (lv_at hl 1 rfl) ?_
          refine va_get (D := D) (ci := 0) (v := .int w2_persons) (C := RX0) (T := TX0) (N := 13) hx hb hts iX0 hown hK hP 0 rfl rfl 3 (by decide) k119 (fun _ h9 => h9) rfl dX3_isFull_71 ?_
          refine lv_bipush (v := 6) hx hb dX3_isFull_74 (by decide) ?_
          refine lv_icmp_lt (tgt := 83) hx hb dX3_isFull_76 (by decide) (fun c76 => ?_) (fun c76 => ?_)
          · have hM := g_pos c76 hM
            refine lv_iconst (v := 0) hx hb dX3_isFull_83 (by decide) ?_
            obtain rfl := si1 hM
            exact hret _ _ _ _ _ dX3_isFull_84 rfl rfl hP hD hS
          · have hM := g_neg c76 hM
            refine lv_iconst (v := 1) hx hb dX3_isFull_79 (by decide) ?_
            refine lv_goto (tgt := 84) hx hb dX3_isFull_80 (by decide) ?_
            obtain rfl := si1 hM
            exact hret _ _ _ _ _ dX3_isFull_84 rfl rfl hP hD hS
        · have hM := g_neg c1_4 hM
          rcases Classical.em (p1 = (5 : Int32)) with c1_5 | c1_5
          · have hM := g_pos c1_5 hM
            refine lv_tableIn (off := 84) (tgt := 85) hx hb dX3_isFull_1 (by rw [c1_5]; decide) (by rw [c1_5]; decide) (by rw [c1_5]; decide) (by decide) ?_
            refine lv_aload_n hx hb dX3_isFull_85 rfl (lv_at hl 1 rfl) ?_
            refine va_get (D := D) (ci := 0) (v := .int w2_interestTold) (C := RX0) (T := TX0) (N := 13) hx hb hts iX0 hown hK hP 0 rfl rfl 5 (by decide) k122 (fun _ h9 => h9) rfl dX3_isFull_86 ?_
            obtain ⟨hz89, hM⟩ := gb_some hM
            obtain rfl := si1 hM
            exact hret _ _ _ _ _ dX3_isFull_89 rfl hz89 hP hD hS
          · have hM := g_neg c1_5 hM
            rcases Classical.em (p1 = (6 : Int32)) with c1_6 | c1_6
            · have hM := g_pos c1_6 hM
              refine lv_tableIn (off := 89) (tgt := 90) hx hb dX3_isFull_1 (by rw [c1_6]; decide) (by rw [c1_6]; decide) (by rw [c1_6]; decide) (by decide) ?_
              refine lv_aload_n hx hb dX3_isFull_90 rfl (lv_at hl 1 rfl) ?_
              refine va_get (D := D) (ci := 0) (v := .int w2_winters) (C := RX0) (T := TX0) (N := 13) hx hb hts iX0 hown hK hP 0 rfl rfl 6 (by decide) k126 (fun _ h9 => h9) rfl dX3_isFull_91 ?_
              refine lv_iconst (v := 5) hx hb dX3_isFull_94 (by decide) ?_
              refine lv_icmp_lt (tgt := 102) hx hb dX3_isFull_95 (by decide) (fun c95 => ?_) (fun c95 => ?_)
              · have hM := g_pos c95 hM
                refine lv_iconst (v := 0) hx hb dX3_isFull_102 (by decide) ?_
                obtain rfl := si1 hM
                exact hret _ _ _ _ _ dX3_isFull_103 rfl rfl hP hD hS
              · have hM := g_neg c95 hM
                refine lv_iconst (v := 1) hx hb dX3_isFull_98 (by decide) ?_
                refine lv_goto (tgt := 103) hx hb dX3_isFull_99 (by decide) ?_
                obtain rfl := si1 hM
                exact hret _ _ _ _ _ dX3_isFull_103 rfl rfl hP hD hS
            · have hM := g_neg c1_6 hM
              have n1_1 : p1.toInt ≠ 1 := fun q => c1_1 (Int32.toInt_inj.mp (q.trans (by decide)))
              have n1_2 : p1.toInt ≠ 2 := fun q => c1_2 (Int32.toInt_inj.mp (q.trans (by decide)))
              have n1_3 : p1.toInt ≠ 3 := fun q => c1_3 (Int32.toInt_inj.mp (q.trans (by decide)))
              have n1_4 : p1.toInt ≠ 4 := fun q => c1_4 (Int32.toInt_inj.mp (q.trans (by decide)))
              have n1_5 : p1.toInt ≠ 5 := fun q => c1_5 (Int32.toInt_inj.mp (q.trans (by decide)))
              have n1_6 : p1.toInt ≠ 6 := fun q => c1_6 (Int32.toInt_inj.mp (q.trans (by decide)))
              refine lv_tableOut (tgt := 104) hx hb dX3_isFull_1 (by omega) (by decide) ?_
              refine lv_iconst (v := 0) hx hb dX3_isFull_104 (by decide) ?_
              obtain rfl := si1 hM
              exact hret _ _ _ _ _ dX3_isFull_105 rfl rfl hP hD hS

-- ===== X3_lowest lowest (IZ)I =====
abbrev r3_lowest : Room := { frames := 0, cells := 0, slots := 0, locals := 0 }
def f3_lowest (N : Nat) (p1 : Int32) (p2 : Int32) : Option Int32 :=
  if p1 = (1 : Int32) then (some (1 : Int32)) else (if p1 = (6 : Int32) then (if p2 = (0 : Int32) then (some (0 : Int32)) else (some (1 : Int32))) else (some (0 : Int32)))
set_option maxHeartbeats 4000000 in
set_option maxRecDepth 100000 in
theorem c3_lowest (l : Launch) (D : va_G) (cy : Nat → ClassId) (N : Nat) (p1 : Int32) (p2 : Int32) (r : Int32) (hM : f3_lowest N p1 p2 = some r) (sz : Nat) : CTi l yX3_lowest wsX3_lowest r3_lowest [.int p1, .int p2] D cy sz [] [] r := by
  unfold f3_lowest at hM
  refine ct_oi (cc := cX3_lowest) (maxL := 2) (ty := .int) (by decide +kernel) rfl (Nat.le_of_ble_eq_true rfl) (lv0 := [(0, .int p1), (1, .int p2)]) rfl ?_
  intro p e s m args below meth c A Q ls hx hb hts hown hml hK hP hD hS hA hret hl
  have hown : s.vm.findClass RX3 = some m.cls := hown
  refine lv_iload_n hx hb dX3_lowest_0 rfl (lv_at hl 0 rfl) ?_
  refine lv_iconst (v := 1) hx hb dX3_lowest_1 (by decide) ?_
  refine lv_icmp_eq (tgt := 15) hx hb dX3_lowest_2 (by decide) (fun c2 => ?_) (fun c2 => ?_)
  · have hM := g_pos c2 hM
    refine lv_iconst (v := 1) hx hb dX3_lowest_15 (by decide) ?_
    refine lv_goto (tgt := 20) hx hb dX3_lowest_16 (by decide) ?_
    obtain rfl := si1 hM
    exact hret _ _ _ _ _ dX3_lowest_20 rfl rfl hP hD hS
  · have hM := g_neg c2 hM
    refine lv_iload_n hx hb dX3_lowest_5 rfl (lv_at hl 0 rfl) ?_
    refine lv_bipush (v := 6) hx hb dX3_lowest_6 (by decide) ?_
    refine lv_icmp_ne (tgt := 19) hx hb dX3_lowest_8 (by decide) (fun c8 => ?_) (fun c8 => ?_)
    · have hM := g_neg c8 hM
      refine lv_iconst (v := 0) hx hb dX3_lowest_19 (by decide) ?_
      obtain rfl := si1 hM
      exact hret _ _ _ _ _ dX3_lowest_20 rfl rfl hP hD hS
    · have hM := g_pos c8 hM
      refine lv_iload_n hx hb dX3_lowest_11 rfl (lv_at hl 1 rfl) ?_
      refine lv_if_eq (tgt := 19) hx hb dX3_lowest_12 (by decide) (fun c12 => ?_) (fun c12 => ?_)
      · have hM := g_pos c12 hM
        refine lv_iconst (v := 0) hx hb dX3_lowest_19 (by decide) ?_
        obtain rfl := si1 hM
        exact hret _ _ _ _ _ dX3_lowest_20 rfl rfl hP hD hS
      · have hM := g_neg c12 hM
        refine lv_iconst (v := 1) hx hb dX3_lowest_15 (by decide) ?_
        refine lv_goto (tgt := 20) hx hb dX3_lowest_16 (by decide) ?_
        obtain rfl := si1 hM
        exact hret _ _ _ _ _ dX3_lowest_20 rfl rfl hP hD hS

-- ===== X3_highest highest (IZLCaveYears$Cave;)I =====
abbrev r3_highest : Room := { frames := 0, cells := 0, slots := 0, locals := 0 }
def f3_highest (N : Nat) (p1 : Int32) (p2 : Int32) (w3_parts : Int32) : Option Int32 :=
  if p1 = (1 : Int32) then (if p2 = (0 : Int32) then (some (9 : Int32)) else (some (6 : Int32))) else (if p1 = (2 : Int32) then (some (w3_parts - (1 : Int32))) else (if p1 = (3 : Int32) then (some (w3_parts - (1 : Int32))) else (if p1 = (4 : Int32) then (if p2 = (0 : Int32) then (some (99 : Int32)) else (some (999 : Int32))) else (if p1 = (5 : Int32) then (some (50 : Int32)) else (if p1 = (6 : Int32) then (if p2 = (0 : Int32) then (some (90 : Int32)) else (some (9 : Int32))) else (some (w3_parts - (1 : Int32))))))))
set_option maxHeartbeats 4000000 in
set_option maxRecDepth 100000 in
theorem c3_highest (l : Launch) (D : va_G) (cy : Nat → ClassId) (N : Nat) (g3 : Nat) (og3_1 og3_2 og3_3 og3_4 og3_5 og3_6 og3_7 og3_8 og3_9 og3_10 og3_11 og3_12 : Value) (p1 : Int32) (p2 : Int32) (w3_parts : Int32) (r : Int32) (hM : f3_highest N p1 p2 w3_parts = some r) (sz : Nat) : CTi l yX3_highest wsX3_highest r3_highest [.int p1, .int p2, .ref g3] D cy sz [(g3, .inr (0, [.int w3_parts, og3_1, og3_2, og3_3, og3_4, og3_5, og3_6, og3_7, og3_8, og3_9, og3_10, og3_11, og3_12]))] [(g3, .inr (0, [.int w3_parts, og3_1, og3_2, og3_3, og3_4, og3_5, og3_6, og3_7, og3_8, og3_9, og3_10, og3_11, og3_12]))] r := by
  unfold f3_highest at hM
  refine ct_oi (cc := cX3_highest) (maxL := 3) (ty := .int) (by decide +kernel) rfl (Nat.le_of_ble_eq_true rfl) (lv0 := [(0, .int p1), (1, .int p2), (2, .ref g3)]) rfl ?_
  intro p e s m args below meth c A Q ls hx hb hts hown hml hK hP hD hS hA hret hl
  have hown : s.vm.findClass RX3 = some m.cls := hown
  have k113 := hts (.fieldLink RX3 113 "CaveYears$Cave" "parts" "I") (List.mem_of_getElem? (i := 1) rfl)
  have iX0 := (fun w h => (List.mem_cons_of_mem _ (List.mem_append_right _ h)) : ∀ w ∈ wsX00, w ∈ wsX3_highest)
  refine lv_iload_n hx hb dX3_highest_0 rfl (lv_at hl 0 rfl) ?_
  rcases Classical.em (p1 = (1 : Int32)) with c1_1 | c1_1
  · have hM := g_pos c1_1 hM
    refine lv_tableIn (off := 39) (tgt := 40) hx hb dX3_highest_1 (by rw [c1_1]; decide) (by rw [c1_1]; decide) (by rw [c1_1]; decide) (by decide) ?_
    refine lv_iload_n hx hb dX3_highest_40 rfl (lv_at hl 1 rfl) ?_
    refine lv_if_eq (tgt := 49) hx hb dX3_highest_41 (by decide) (fun c41 => ?_) (fun c41 => ?_)
    · have hM := g_pos c41 hM
      refine lv_bipush (v := 9) hx hb dX3_highest_49 (by decide) ?_
      obtain rfl := si1 hM
      exact hret _ _ _ _ _ dX3_highest_51 rfl rfl hP hD hS
    · have hM := g_neg c41 hM
      refine lv_bipush (v := 6) hx hb dX3_highest_44 (by decide) ?_
      refine lv_goto (tgt := 51) hx hb dX3_highest_46 (by decide) ?_
      obtain rfl := si1 hM
      exact hret _ _ _ _ _ dX3_highest_51 rfl rfl hP hD hS
  · have hM := g_neg c1_1 hM
    rcases Classical.em (p1 = (2 : Int32)) with c1_2 | c1_2
    · have hM := g_pos c1_2 hM
      refine lv_tableIn (off := 79) (tgt := 80) hx hb dX3_highest_1 (by rw [c1_2]; decide) (by rw [c1_2]; decide) (by rw [c1_2]; decide) (by decide) ?_
      refine lv_aload_n hx hb dX3_highest_80 rfl (lv_at hl 2 rfl) ?_
      refine va_get (D := D) (ci := 0) (v := .int w3_parts) (C := RX0) (T := TX0) (N := 13) hx hb hts iX0 hown hK hP 0 rfl rfl 0 (by decide) k113 (fun _ h9 => h9) rfl dX3_highest_81 ?_
      refine lv_iconst (v := 1) hx hb dX3_highest_84 (by decide) ?_
      refine lv_isub hx hb dX3_highest_85 ?_
      obtain rfl := si1 hM
      exact hret _ _ _ _ _ dX3_highest_86 rfl rfl hP hD hS
    · have hM := g_neg c1_2 hM
      rcases Classical.em (p1 = (3 : Int32)) with c1_3 | c1_3
      · have hM := g_pos c1_3 hM
        refine lv_tableIn (off := 79) (tgt := 80) hx hb dX3_highest_1 (by rw [c1_3]; decide) (by rw [c1_3]; decide) (by rw [c1_3]; decide) (by decide) ?_
        refine lv_aload_n hx hb dX3_highest_80 rfl (lv_at hl 2 rfl) ?_
        refine va_get (D := D) (ci := 0) (v := .int w3_parts) (C := RX0) (T := TX0) (N := 13) hx hb hts iX0 hown hK hP 0 rfl rfl 0 (by decide) k113 (fun _ h9 => h9) rfl dX3_highest_81 ?_
        refine lv_iconst (v := 1) hx hb dX3_highest_84 (by decide) ?_
        refine lv_isub hx hb dX3_highest_85 ?_
        obtain rfl := si1 hM
        exact hret _ _ _ _ _ dX3_highest_86 rfl rfl hP hD hS
      · have hM := g_neg c1_3 hM
        rcases Classical.em (p1 = (4 : Int32)) with c1_4 | c1_4
        · have hM := g_pos c1_4 hM
          refine lv_tableIn (off := 51) (tgt := 52) hx hb dX3_highest_1 (by rw [c1_4]; decide) (by rw [c1_4]; decide) (by rw [c1_4]; decide) (by decide) ?_
          refine lv_iload_n hx hb dX3_highest_52 rfl (lv_at hl 1 rfl) ?_
          refine lv_if_eq (tgt := 62) hx hb dX3_highest_53 (by decide) (fun c53 => ?_) (fun c53 => ?_)
          · have hM := g_pos c53 hM
            refine lv_bipush (v := 99) hx hb dX3_highest_62 (by decide) ?_
            obtain rfl := si1 hM
            exact hret _ _ _ _ _ dX3_highest_64 rfl rfl hP hD hS
          · have hM := g_neg c53 hM
            refine lv_sipush (v := 999) hx hb dX3_highest_56 (by decide) ?_
            refine lv_goto (tgt := 64) hx hb dX3_highest_59 (by decide) ?_
            obtain rfl := si1 hM
            exact hret _ _ _ _ _ dX3_highest_64 rfl rfl hP hD hS
        · have hM := g_neg c1_4 hM
          rcases Classical.em (p1 = (5 : Int32)) with c1_5 | c1_5
          · have hM := g_pos c1_5 hM
            refine lv_tableIn (off := 64) (tgt := 65) hx hb dX3_highest_1 (by rw [c1_5]; decide) (by rw [c1_5]; decide) (by rw [c1_5]; decide) (by decide) ?_
            refine lv_bipush (v := 50) hx hb dX3_highest_65 (by decide) ?_
            obtain rfl := si1 hM
            exact hret _ _ _ _ _ dX3_highest_67 rfl rfl hP hD hS
          · have hM := g_neg c1_5 hM
            rcases Classical.em (p1 = (6 : Int32)) with c1_6 | c1_6
            · have hM := g_pos c1_6 hM
              refine lv_tableIn (off := 67) (tgt := 68) hx hb dX3_highest_1 (by rw [c1_6]; decide) (by rw [c1_6]; decide) (by rw [c1_6]; decide) (by decide) ?_
              refine lv_iload_n hx hb dX3_highest_68 rfl (lv_at hl 1 rfl) ?_
              refine lv_if_eq (tgt := 77) hx hb dX3_highest_69 (by decide) (fun c69 => ?_) (fun c69 => ?_)
              · have hM := g_pos c69 hM
                refine lv_bipush (v := 90) hx hb dX3_highest_77 (by decide) ?_
                obtain rfl := si1 hM
                exact hret _ _ _ _ _ dX3_highest_79 rfl rfl hP hD hS
              · have hM := g_neg c69 hM
                refine lv_bipush (v := 9) hx hb dX3_highest_72 (by decide) ?_
                refine lv_goto (tgt := 79) hx hb dX3_highest_74 (by decide) ?_
                obtain rfl := si1 hM
                exact hret _ _ _ _ _ dX3_highest_79 rfl rfl hP hD hS
            · have hM := g_neg c1_6 hM
              have n1_1 : p1.toInt ≠ 1 := fun q => c1_1 (Int32.toInt_inj.mp (q.trans (by decide)))
              have n1_2 : p1.toInt ≠ 2 := fun q => c1_2 (Int32.toInt_inj.mp (q.trans (by decide)))
              have n1_3 : p1.toInt ≠ 3 := fun q => c1_3 (Int32.toInt_inj.mp (q.trans (by decide)))
              have n1_4 : p1.toInt ≠ 4 := fun q => c1_4 (Int32.toInt_inj.mp (q.trans (by decide)))
              have n1_5 : p1.toInt ≠ 5 := fun q => c1_5 (Int32.toInt_inj.mp (q.trans (by decide)))
              have n1_6 : p1.toInt ≠ 6 := fun q => c1_6 (Int32.toInt_inj.mp (q.trans (by decide)))
              refine lv_tableOut (tgt := 80) hx hb dX3_highest_1 (by omega) (by decide) ?_
              refine lv_aload_n hx hb dX3_highest_80 rfl (lv_at hl 2 rfl) ?_
              refine va_get (D := D) (ci := 0) (v := .int w3_parts) (C := RX0) (T := TX0) (N := 13) hx hb hts iX0 hown hK hP 0 rfl rfl 0 (by decide) k113 (fun _ h9 => h9) rfl dX3_highest_81 ?_
              refine lv_iconst (v := 1) hx hb dX3_highest_84 (by decide) ?_
              refine lv_isub hx hb dX3_highest_85 ?_
              obtain rfl := si1 hM
              exact hret _ _ _ _ _ dX3_highest_86 rfl rfl hP hD hS

-- ===== X3_addClause addClause (IIILCaveYears$Cave;)V =====
abbrev r3_addClause : Room := { frames := 2, cells := 0, slots := 0, locals := 43 }
def f3_addClause (N : Nat) (p1 : Int32) (p2 : Int32) (p3 : Int32) (w4_parts : Int32) (w4_mouths : Int32) (w4_ways : Int32) (w4_persons : Int32) (w4_interest : Int32) (w4_interestTold : Int32) (w4_winters : Int32) (w4_rate : Nat → Int32) (w4_near : Nat → Int32) (w4_firstAge : Nat → Int32) (w4_firstRiches : Nat → Int32) (w4_winterStart : Nat → Int32) (w4_winterEnd : Nat → Int32) : Option (Int32 × Int32 × Int32 × Int32 × Int32 × Int32 × Int32 × (Nat → Int32) × (Nat → Int32) × (Nat → Int32) × (Nat → Int32) × (Nat → Int32) × (Nat → Int32)) :=
  if p1 = (1 : Int32) then (ob3 (f0_addPart N p2 p3 w4_parts w4_rate w4_near) fun w4_parts_39 w4_rate_39 w4_near_39 => some (w4_parts_39, w4_mouths, w4_ways, w4_persons, w4_interest, w4_interestTold, w4_winters, w4_rate_39, w4_near_39, w4_firstAge, w4_firstRiches, w4_winterStart, w4_winterEnd)) else (if p1 = (2 : Int32) then (ob1 (f0_addMouth N p2 w4_parts w4_mouths) fun w4_mouths_47 => some (w4_parts, w4_mouths_47, w4_ways, w4_persons, w4_interest, w4_interestTold, w4_winters, w4_rate, w4_near, w4_firstAge, w4_firstRiches, w4_winterStart, w4_winterEnd)) else (if p1 = (3 : Int32) then (ob2 (f0_addWay N p2 p3 w4_parts w4_ways w4_near) fun w4_ways_56 w4_near_56 => some (w4_parts, w4_mouths, w4_ways_56, w4_persons, w4_interest, w4_interestTold, w4_winters, w4_rate, w4_near_56, w4_firstAge, w4_firstRiches, w4_winterStart, w4_winterEnd)) else (if p1 = (4 : Int32) then (ob3 (f0_addPerson N p2 p3 w4_persons w4_firstAge w4_firstRiches) fun w4_persons_65 w4_firstAge_65 w4_firstRiches_65 => some (w4_parts, w4_mouths, w4_ways, w4_persons_65, w4_interest, w4_interestTold, w4_winters, w4_rate, w4_near, w4_firstAge_65, w4_firstRiches_65, w4_winterStart, w4_winterEnd)) else (if p1 = (5 : Int32) then (ob2 (f0_setInterest N p2 w4_interest w4_interestTold) fun w4_interest_73 w4_interestTold_73 => some (w4_parts, w4_mouths, w4_ways, w4_persons, w4_interest_73, w4_interestTold_73, w4_winters, w4_rate, w4_near, w4_firstAge, w4_firstRiches, w4_winterStart, w4_winterEnd)) else (ob3 (f0_addWinter N p2 p3 w4_winters w4_winterStart w4_winterEnd) fun w4_winters_82 w4_winterStart_82 w4_winterEnd_82 => some (w4_parts, w4_mouths, w4_ways, w4_persons, w4_interest, w4_interestTold, w4_winters_82, w4_rate, w4_near, w4_firstAge, w4_firstRiches, w4_winterStart_82, w4_winterEnd_82))))))
set_option maxHeartbeats 4000000 in
set_option maxRecDepth 100000 in
theorem c3_addClause (l : Launch) (D : va_G) (cy : Nat → ClassId) (N : Nat) (g4 g4_rate g4_near g4_firstAge g4_firstRiches g4_winterStart g4_winterEnd : Nat) (p1 : Int32) (p2 : Int32) (p3 : Int32) (w4_parts : Int32) (w4_mouths : Int32) (w4_ways : Int32) (w4_persons : Int32) (w4_interest : Int32) (w4_interestTold : Int32) (w4_winters : Int32) (w4_rate : Nat → Int32) (w4_near : Nat → Int32) (w4_firstAge : Nat → Int32) (w4_firstRiches : Nat → Int32) (w4_winterStart : Nat → Int32) (w4_winterEnd : Nat → Int32) (nw4_parts : Int32) (nw4_mouths : Int32) (nw4_ways : Int32) (nw4_persons : Int32) (nw4_interest : Int32) (nw4_interestTold : Int32) (nw4_winters : Int32) (nw4_rate : Nat → Int32) (nw4_near : Nat → Int32) (nw4_firstAge : Nat → Int32) (nw4_firstRiches : Nat → Int32) (nw4_winterStart : Nat → Int32) (nw4_winterEnd : Nat → Int32) (hM : f3_addClause N p1 p2 p3 w4_parts w4_mouths w4_ways w4_persons w4_interest w4_interestTold w4_winters w4_rate w4_near w4_firstAge w4_firstRiches w4_winterStart w4_winterEnd = some (nw4_parts, nw4_mouths, nw4_ways, nw4_persons, nw4_interest, nw4_interestTold, nw4_winters, nw4_rate, nw4_near, nw4_firstAge, nw4_firstRiches, nw4_winterStart, nw4_winterEnd)) (sz : Nat) : CTv l yX3_addClause wsX3_addClause r3_addClause [.int p1, .int p2, .int p3, .ref g4] D cy sz [(g4, .inr (0, [.int w4_parts, .int w4_mouths, .int w4_ways, .int w4_persons, .int w4_interest, .int w4_interestTold, .int w4_winters, .ref g4_rate, .ref g4_near, .ref g4_firstAge, .ref g4_firstRiches, .ref g4_winterStart, .ref g4_winterEnd])), (g4_rate, .inl (cy 2, 7, .inl w4_rate)), (g4_near, .inl (cy 2, 7, .inl w4_near)), (g4_firstAge, .inl (cy 2, 6, .inl w4_firstAge)), (g4_firstRiches, .inl (cy 2, 6, .inl w4_firstRiches)), (g4_winterStart, .inl (cy 2, 5, .inl w4_winterStart)), (g4_winterEnd, .inl (cy 2, 5, .inl w4_winterEnd))] [(g4, .inr (0, [.int nw4_parts, .int nw4_mouths, .int nw4_ways, .int nw4_persons, .int nw4_interest, .int nw4_interestTold, .int nw4_winters, .ref g4_rate, .ref g4_near, .ref g4_firstAge, .ref g4_firstRiches, .ref g4_winterStart, .ref g4_winterEnd])), (g4_rate, .inl (cy 2, 7, .inl nw4_rate)), (g4_near, .inl (cy 2, 7, .inl nw4_near)), (g4_firstAge, .inl (cy 2, 6, .inl nw4_firstAge)), (g4_firstRiches, .inl (cy 2, 6, .inl nw4_firstRiches)), (g4_winterStart, .inl (cy 2, 5, .inl nw4_winterStart)), (g4_winterEnd, .inl (cy 2, 5, .inl nw4_winterEnd))] := by
  unfold f3_addClause at hM
  refine ct_ov (cc := cX3_addClause) (maxL := 4)  (by decide +kernel) rfl (Nat.le_of_ble_eq_true rfl) (lv0 := [(0, .int p1), (1, .int p2), (2, .int p3), (3, .ref g4)]) rfl ?_
  intro p e s m args below meth c A Q ls hx hb hts hown hml hK hP hD hS hA hret hl
  have hown : s.vm.findClass RX3 = some m.cls := hown
  refine lv_iload_n hx hb dX3_addClause_0 rfl (lv_at hl 0 rfl) ?_
  rcases Classical.em (p1 = (1 : Int32)) with c1_1 | c1_1
  · have hM := g_pos c1_1 hM
    refine lv_tableIn (off := 35) (tgt := 36) hx hb dX3_addClause_1 (by rw [c1_1]; decide) (by rw [c1_1]; decide) (by rw [c1_1]; decide) (by decide) ?_
    refine lv_aload_n hx hb dX3_addClause_36 rfl (lv_at hl 3 rfl) ?_
    refine lv_iload_n hx hb dX3_addClause_37 rfl (lv_at hl 1 rfl) ?_
    refine lv_iload_n hx hb dX3_addClause_38 rfl (lv_at hl 2 rfl) ?_
    obtain ⟨w4_parts_39, w4_rate_39, w4_near_39, hc39, hM⟩ := ob3_some hM
    refine cl_vv (As := [.int p2, .int p3]) (rest := []) (ci := 0) (q0 := 0) (wr := [(g4_firstAge, .inl (cy 2, 6, .inl w4_firstAge)), (g4_firstRiches, .inl (cy 2, 6, .inl w4_firstRiches)), (g4_winterStart, .inl (cy 2, 5, .inl w4_winterStart)), (g4_winterEnd, .inl (cy 2, 5, .inl w4_winterEnd))]) (ws2 := [(g4, .inr (0, [.int w4_parts_39, .int w4_mouths, .int w4_ways, .int w4_persons, .int w4_interest, .int w4_interestTold, .int w4_winters, .ref g4_rate, .ref g4_near, .ref g4_firstAge, .ref g4_firstRiches, .ref g4_winterStart, .ref g4_winterEnd])), (g4_rate, .inl (cy 2, 7, .inl w4_rate_39)), (g4_near, .inl (cy 2, 7, .inl w4_near_39)), (g4_firstAge, .inl (cy 2, 6, .inl w4_firstAge)), (g4_firstRiches, .inl (cy 2, 6, .inl w4_firstRiches)), (g4_winterStart, .inl (cy 2, 5, .inl w4_winterStart)), (g4_winterEnd, .inl (cy 2, 5, .inl w4_winterEnd))]) (isC := [0, 1, 2]) (isR := [3, 4, 5, 6]) (pm := [4, 5, 6, 0, 1, 2, 3]) hx hb hml hown hts (c0_addPart l D cy N g4 g4_rate g4_near (.int w4_mouths) (.int w4_ways) (.int w4_persons) (.int w4_interest) (.int w4_interestTold) (.int w4_winters) (.ref g4_firstAge) (.ref g4_firstRiches) (.ref g4_winterStart) (.ref g4_winterEnd) p2 p3 w4_parts w4_rate w4_near w4_parts_39 w4_rate_39 w4_near_39 hc39) (cwV 2 hts gX3_addClause_X0_addPart rfl rfl rfl (by decide +kernel) ⟨Nat.le_of_ble_eq_true rfl, Nat.le_of_ble_eq_true rfl⟩) hK hP hD hS hA rfl rfl rfl rfl rfl (by decide) rfl rfl rfl hl.1 (Nat.le_of_ble_eq_true rfl) dX3_addClause_39 ⟨Nat.zero_le _, Nat.zero_le _⟩ rfl rfl (fun H locs hP hD hS => ?_)
    refine lv_goto (tgt := 85) hx hb dX3_addClause_42 (by decide) ?_
    obtain ⟨rfl, rfl, rfl, rfl, rfl, rfl, rfl, rfl, rfl, rfl, rfl, rfl, rfl⟩ := si13 hM
    exact hret _ _ _ _ dX3_addClause_85 hP hD hS
  · have hM := g_neg c1_1 hM
    rcases Classical.em (p1 = (2 : Int32)) with c1_2 | c1_2
    · have hM := g_pos c1_2 hM
      refine lv_tableIn (off := 44) (tgt := 45) hx hb dX3_addClause_1 (by rw [c1_2]; decide) (by rw [c1_2]; decide) (by rw [c1_2]; decide) (by decide) ?_
      refine lv_aload_n hx hb dX3_addClause_45 rfl (lv_at hl 3 rfl) ?_
      refine lv_iload_n hx hb dX3_addClause_46 rfl (lv_at hl 1 rfl) ?_
      obtain ⟨w4_mouths_47, hc47, hM⟩ := ob1_some hM
      refine cl_vv (As := [.int p2]) (rest := []) (ci := 0) (q0 := 0) (wr := [(g4_rate, .inl (cy 2, 7, .inl w4_rate)), (g4_near, .inl (cy 2, 7, .inl w4_near)), (g4_firstAge, .inl (cy 2, 6, .inl w4_firstAge)), (g4_firstRiches, .inl (cy 2, 6, .inl w4_firstRiches)), (g4_winterStart, .inl (cy 2, 5, .inl w4_winterStart)), (g4_winterEnd, .inl (cy 2, 5, .inl w4_winterEnd))]) (ws2 := [(g4, .inr (0, [.int w4_parts, .int w4_mouths_47, .int w4_ways, .int w4_persons, .int w4_interest, .int w4_interestTold, .int w4_winters, .ref g4_rate, .ref g4_near, .ref g4_firstAge, .ref g4_firstRiches, .ref g4_winterStart, .ref g4_winterEnd])), (g4_rate, .inl (cy 2, 7, .inl w4_rate)), (g4_near, .inl (cy 2, 7, .inl w4_near)), (g4_firstAge, .inl (cy 2, 6, .inl w4_firstAge)), (g4_firstRiches, .inl (cy 2, 6, .inl w4_firstRiches)), (g4_winterStart, .inl (cy 2, 5, .inl w4_winterStart)), (g4_winterEnd, .inl (cy 2, 5, .inl w4_winterEnd))]) (isC := [0]) (isR := [1, 2, 3, 4, 5, 6]) (pm := [6, 0, 1, 2, 3, 4, 5]) hx hb hml hown hts (c0_addMouth l D cy N g4 (.int w4_ways) (.int w4_persons) (.int w4_interest) (.int w4_interestTold) (.int w4_winters) (.ref g4_rate) (.ref g4_near) (.ref g4_firstAge) (.ref g4_firstRiches) (.ref g4_winterStart) (.ref g4_winterEnd) p2 w4_parts w4_mouths w4_mouths_47 hc47) (cwV 1 hts gX3_addClause_X0_addMouth rfl rfl rfl (by decide +kernel) ⟨Nat.le_of_ble_eq_true rfl, Nat.le_of_ble_eq_true rfl⟩) hK hP hD hS hA rfl rfl rfl rfl rfl (by decide) rfl rfl rfl hl.1 (Nat.le_of_ble_eq_true rfl) dX3_addClause_47 ⟨Nat.zero_le _, Nat.zero_le _⟩ rfl rfl (fun H locs hP hD hS => ?_)
      refine lv_goto (tgt := 85) hx hb dX3_addClause_50 (by decide) ?_
      obtain ⟨rfl, rfl, rfl, rfl, rfl, rfl, rfl, rfl, rfl, rfl, rfl, rfl, rfl⟩ := si13 hM
      exact hret _ _ _ _ dX3_addClause_85 hP hD hS
    · have hM := g_neg c1_2 hM
      rcases Classical.em (p1 = (3 : Int32)) with c1_3 | c1_3
      · have hM := g_pos c1_3 hM
        refine lv_tableIn (off := 52) (tgt := 53) hx hb dX3_addClause_1 (by rw [c1_3]; decide) (by rw [c1_3]; decide) (by rw [c1_3]; decide) (by decide) ?_
        refine lv_aload_n hx hb dX3_addClause_53 rfl (lv_at hl 3 rfl) ?_
        refine lv_iload_n hx hb dX3_addClause_54 rfl (lv_at hl 1 rfl) ?_
        refine lv_iload_n hx hb dX3_addClause_55 rfl (lv_at hl 2 rfl) ?_
        obtain ⟨w4_ways_56, w4_near_56, hc56, hM⟩ := ob2_some hM
        refine cl_vv (As := [.int p2, .int p3]) (rest := []) (ci := 0) (q0 := 0) (wr := [(g4_rate, .inl (cy 2, 7, .inl w4_rate)), (g4_firstAge, .inl (cy 2, 6, .inl w4_firstAge)), (g4_firstRiches, .inl (cy 2, 6, .inl w4_firstRiches)), (g4_winterStart, .inl (cy 2, 5, .inl w4_winterStart)), (g4_winterEnd, .inl (cy 2, 5, .inl w4_winterEnd))]) (ws2 := [(g4, .inr (0, [.int w4_parts, .int w4_mouths, .int w4_ways_56, .int w4_persons, .int w4_interest, .int w4_interestTold, .int w4_winters, .ref g4_rate, .ref g4_near, .ref g4_firstAge, .ref g4_firstRiches, .ref g4_winterStart, .ref g4_winterEnd])), (g4_rate, .inl (cy 2, 7, .inl w4_rate)), (g4_near, .inl (cy 2, 7, .inl w4_near_56)), (g4_firstAge, .inl (cy 2, 6, .inl w4_firstAge)), (g4_firstRiches, .inl (cy 2, 6, .inl w4_firstRiches)), (g4_winterStart, .inl (cy 2, 5, .inl w4_winterStart)), (g4_winterEnd, .inl (cy 2, 5, .inl w4_winterEnd))]) (isC := [0, 2]) (isR := [1, 3, 4, 5, 6]) (pm := [5, 0, 6, 1, 2, 3, 4]) hx hb hml hown hts (c0_addWay l D cy N g4 g4_near (.int w4_mouths) (.int w4_persons) (.int w4_interest) (.int w4_interestTold) (.int w4_winters) (.ref g4_rate) (.ref g4_firstAge) (.ref g4_firstRiches) (.ref g4_winterStart) (.ref g4_winterEnd) p2 p3 w4_parts w4_ways w4_near w4_ways_56 w4_near_56 hc56) (cwV 2 hts gX3_addClause_X0_addWay rfl rfl rfl (by decide +kernel) ⟨Nat.le_of_ble_eq_true rfl, Nat.le_of_ble_eq_true rfl⟩) hK hP hD hS hA rfl rfl rfl rfl rfl (by decide) rfl rfl rfl hl.1 (Nat.le_of_ble_eq_true rfl) dX3_addClause_56 ⟨Nat.zero_le _, Nat.zero_le _⟩ rfl rfl (fun H locs hP hD hS => ?_)
        refine lv_goto (tgt := 85) hx hb dX3_addClause_59 (by decide) ?_
        obtain ⟨rfl, rfl, rfl, rfl, rfl, rfl, rfl, rfl, rfl, rfl, rfl, rfl, rfl⟩ := si13 hM
        exact hret _ _ _ _ dX3_addClause_85 hP hD hS
      · have hM := g_neg c1_3 hM
        rcases Classical.em (p1 = (4 : Int32)) with c1_4 | c1_4
        · have hM := g_pos c1_4 hM
          refine lv_tableIn (off := 61) (tgt := 62) hx hb dX3_addClause_1 (by rw [c1_4]; decide) (by rw [c1_4]; decide) (by rw [c1_4]; decide) (by decide) ?_
          refine lv_aload_n hx hb dX3_addClause_62 rfl (lv_at hl 3 rfl) ?_
          refine lv_iload_n hx hb dX3_addClause_63 rfl (lv_at hl 1 rfl) ?_
          refine lv_iload_n hx hb dX3_addClause_64 rfl (lv_at hl 2 rfl) ?_
          obtain ⟨w4_persons_65, w4_firstAge_65, w4_firstRiches_65, hc65, hM⟩ := ob3_some hM
          refine cl_vv (As := [.int p2, .int p3]) (rest := []) (ci := 0) (q0 := 0) (wr := [(g4_rate, .inl (cy 2, 7, .inl w4_rate)), (g4_near, .inl (cy 2, 7, .inl w4_near)), (g4_winterStart, .inl (cy 2, 5, .inl w4_winterStart)), (g4_winterEnd, .inl (cy 2, 5, .inl w4_winterEnd))]) (ws2 := [(g4, .inr (0, [.int w4_parts, .int w4_mouths, .int w4_ways, .int w4_persons_65, .int w4_interest, .int w4_interestTold, .int w4_winters, .ref g4_rate, .ref g4_near, .ref g4_firstAge, .ref g4_firstRiches, .ref g4_winterStart, .ref g4_winterEnd])), (g4_rate, .inl (cy 2, 7, .inl w4_rate)), (g4_near, .inl (cy 2, 7, .inl w4_near)), (g4_firstAge, .inl (cy 2, 6, .inl w4_firstAge_65)), (g4_firstRiches, .inl (cy 2, 6, .inl w4_firstRiches_65)), (g4_winterStart, .inl (cy 2, 5, .inl w4_winterStart)), (g4_winterEnd, .inl (cy 2, 5, .inl w4_winterEnd))]) (isC := [0, 3, 4]) (isR := [1, 2, 5, 6]) (pm := [4, 0, 1, 5, 6, 2, 3]) hx hb hml hown hts (c0_addPerson l D cy N g4 g4_firstAge g4_firstRiches (.int w4_parts) (.int w4_mouths) (.int w4_ways) (.int w4_interest) (.int w4_interestTold) (.int w4_winters) (.ref g4_rate) (.ref g4_near) (.ref g4_winterStart) (.ref g4_winterEnd) p2 p3 w4_persons w4_firstAge w4_firstRiches w4_persons_65 w4_firstAge_65 w4_firstRiches_65 hc65) (cwV 2 hts gX3_addClause_X0_addPerson rfl rfl rfl (by decide +kernel) ⟨Nat.le_of_ble_eq_true rfl, Nat.le_of_ble_eq_true rfl⟩) hK hP hD hS hA rfl rfl rfl rfl rfl (by decide) rfl rfl rfl hl.1 (Nat.le_of_ble_eq_true rfl) dX3_addClause_65 ⟨Nat.zero_le _, Nat.zero_le _⟩ rfl rfl (fun H locs hP hD hS => ?_)
          refine lv_goto (tgt := 85) hx hb dX3_addClause_68 (by decide) ?_
          obtain ⟨rfl, rfl, rfl, rfl, rfl, rfl, rfl, rfl, rfl, rfl, rfl, rfl, rfl⟩ := si13 hM
          exact hret _ _ _ _ dX3_addClause_85 hP hD hS
        · have hM := g_neg c1_4 hM
          rcases Classical.em (p1 = (5 : Int32)) with c1_5 | c1_5
          · have hM := g_pos c1_5 hM
            refine lv_tableIn (off := 70) (tgt := 71) hx hb dX3_addClause_1 (by rw [c1_5]; decide) (by rw [c1_5]; decide) (by rw [c1_5]; decide) (by decide) ?_
            refine lv_aload_n hx hb dX3_addClause_71 rfl (lv_at hl 3 rfl) ?_
            refine lv_iload_n hx hb dX3_addClause_72 rfl (lv_at hl 1 rfl) ?_
            obtain ⟨w4_interest_73, w4_interestTold_73, hc73, hM⟩ := ob2_some hM
            refine cl_vv (As := [.int p2]) (rest := []) (ci := 0) (q0 := 0) (wr := [(g4_rate, .inl (cy 2, 7, .inl w4_rate)), (g4_near, .inl (cy 2, 7, .inl w4_near)), (g4_firstAge, .inl (cy 2, 6, .inl w4_firstAge)), (g4_firstRiches, .inl (cy 2, 6, .inl w4_firstRiches)), (g4_winterStart, .inl (cy 2, 5, .inl w4_winterStart)), (g4_winterEnd, .inl (cy 2, 5, .inl w4_winterEnd))]) (ws2 := [(g4, .inr (0, [.int w4_parts, .int w4_mouths, .int w4_ways, .int w4_persons, .int w4_interest_73, .int w4_interestTold_73, .int w4_winters, .ref g4_rate, .ref g4_near, .ref g4_firstAge, .ref g4_firstRiches, .ref g4_winterStart, .ref g4_winterEnd])), (g4_rate, .inl (cy 2, 7, .inl w4_rate)), (g4_near, .inl (cy 2, 7, .inl w4_near)), (g4_firstAge, .inl (cy 2, 6, .inl w4_firstAge)), (g4_firstRiches, .inl (cy 2, 6, .inl w4_firstRiches)), (g4_winterStart, .inl (cy 2, 5, .inl w4_winterStart)), (g4_winterEnd, .inl (cy 2, 5, .inl w4_winterEnd))]) (isC := [0]) (isR := [1, 2, 3, 4, 5, 6]) (pm := [6, 0, 1, 2, 3, 4, 5]) hx hb hml hown hts (c0_setInterest l D cy N g4 (.int w4_parts) (.int w4_mouths) (.int w4_ways) (.int w4_persons) (.int w4_winters) (.ref g4_rate) (.ref g4_near) (.ref g4_firstAge) (.ref g4_firstRiches) (.ref g4_winterStart) (.ref g4_winterEnd) p2 w4_interest w4_interestTold w4_interest_73 w4_interestTold_73 hc73) (cwV 1 hts gX3_addClause_X0_setInterest rfl rfl rfl (by decide +kernel) ⟨Nat.le_of_ble_eq_true rfl, Nat.le_of_ble_eq_true rfl⟩) hK hP hD hS hA rfl rfl rfl rfl rfl (by decide) rfl rfl rfl hl.1 (Nat.le_of_ble_eq_true rfl) dX3_addClause_73 ⟨Nat.zero_le _, Nat.zero_le _⟩ rfl rfl (fun H locs hP hD hS => ?_)
            refine lv_goto (tgt := 85) hx hb dX3_addClause_76 (by decide) ?_
            obtain ⟨rfl, rfl, rfl, rfl, rfl, rfl, rfl, rfl, rfl, rfl, rfl, rfl, rfl⟩ := si13 hM
            exact hret _ _ _ _ dX3_addClause_85 hP hD hS
          · have hM := g_neg c1_5 hM
            have n1_1 : p1.toInt ≠ 1 := fun q => c1_1 (Int32.toInt_inj.mp (q.trans (by decide)))
            have n1_2 : p1.toInt ≠ 2 := fun q => c1_2 (Int32.toInt_inj.mp (q.trans (by decide)))
            have n1_3 : p1.toInt ≠ 3 := fun q => c1_3 (Int32.toInt_inj.mp (q.trans (by decide)))
            have n1_4 : p1.toInt ≠ 4 := fun q => c1_4 (Int32.toInt_inj.mp (q.trans (by decide)))
            have n1_5 : p1.toInt ≠ 5 := fun q => c1_5 (Int32.toInt_inj.mp (q.trans (by decide)))
            refine lv_tableOut (tgt := 79) hx hb dX3_addClause_1 (by omega) (by decide) ?_
            refine lv_aload_n hx hb dX3_addClause_79 rfl (lv_at hl 3 rfl) ?_
            refine lv_iload_n hx hb dX3_addClause_80 rfl (lv_at hl 1 rfl) ?_
            refine lv_iload_n hx hb dX3_addClause_81 rfl (lv_at hl 2 rfl) ?_
            obtain ⟨w4_winters_82, w4_winterStart_82, w4_winterEnd_82, hc82, hM⟩ := ob3_some hM
            refine cl_vv (As := [.int p2, .int p3]) (rest := []) (ci := 0) (q0 := 0) (wr := [(g4_rate, .inl (cy 2, 7, .inl w4_rate)), (g4_near, .inl (cy 2, 7, .inl w4_near)), (g4_firstAge, .inl (cy 2, 6, .inl w4_firstAge)), (g4_firstRiches, .inl (cy 2, 6, .inl w4_firstRiches))]) (ws2 := [(g4, .inr (0, [.int w4_parts, .int w4_mouths, .int w4_ways, .int w4_persons, .int w4_interest, .int w4_interestTold, .int w4_winters_82, .ref g4_rate, .ref g4_near, .ref g4_firstAge, .ref g4_firstRiches, .ref g4_winterStart, .ref g4_winterEnd])), (g4_rate, .inl (cy 2, 7, .inl w4_rate)), (g4_near, .inl (cy 2, 7, .inl w4_near)), (g4_firstAge, .inl (cy 2, 6, .inl w4_firstAge)), (g4_firstRiches, .inl (cy 2, 6, .inl w4_firstRiches)), (g4_winterStart, .inl (cy 2, 5, .inl w4_winterStart_82)), (g4_winterEnd, .inl (cy 2, 5, .inl w4_winterEnd_82))]) (isC := [0, 5, 6]) (isR := [1, 2, 3, 4]) (pm := [4, 0, 1, 2, 3, 5, 6]) hx hb hml hown hts (c0_addWinter l D cy N g4 g4_winterStart g4_winterEnd (.int w4_parts) (.int w4_mouths) (.int w4_ways) (.int w4_persons) (.int w4_interest) (.int w4_interestTold) (.ref g4_rate) (.ref g4_near) (.ref g4_firstAge) (.ref g4_firstRiches) p2 p3 w4_winters w4_winterStart w4_winterEnd w4_winters_82 w4_winterStart_82 w4_winterEnd_82 hc82) (cwV 2 hts gX3_addClause_X0_addWinter rfl rfl rfl (by decide +kernel) ⟨Nat.le_of_ble_eq_true rfl, Nat.le_of_ble_eq_true rfl⟩) hK hP hD hS hA rfl rfl rfl rfl rfl (by decide) rfl rfl rfl hl.1 (Nat.le_of_ble_eq_true rfl) dX3_addClause_82 ⟨Nat.zero_le _, Nat.zero_le _⟩ rfl rfl (fun H locs hP hD hS => ?_)
            obtain ⟨rfl, rfl, rfl, rfl, rfl, rfl, rfl, rfl, rfl, rfl, rfl, rfl, rfl⟩ := si13 hM
            exact hret _ _ _ _ dX3_addClause_85 hP hD hS
