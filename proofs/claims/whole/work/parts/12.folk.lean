-- ===== X2_isPlace isPlace (I)Z =====
abbrev r2_isPlace : Room := { frames := 0, cells := 0, slots := 0, locals := 0 }
def f2_isPlace (N : Nat) (p1 : Int32) : Option Int32 :=
  if p1 < (0 : Int32) then (some (0 : Int32)) else (if (6 : Int32) ≤ p1 then (some (0 : Int32)) else (some (1 : Int32)))
set_option maxHeartbeats 4000000 in
set_option maxRecDepth 100000 in
theorem c2_isPlace (l : Launch) (D : va_G) (cy : Nat → ClassId) (N : Nat) (p1 : Int32) (r : Int32) (hM : f2_isPlace N p1 = some r) (sz : Nat) : CTi l yX2_isPlace wsX2_isPlace r2_isPlace [.int p1] D cy sz [] [] r := by
  unfold f2_isPlace at hM
  refine ct_oi (cc := cX2_isPlace) (maxL := 1) (ty := .boolean) (by decide +kernel) rfl (Nat.le_of_ble_eq_true rfl) (lv0 := [(0, .int p1)]) rfl ?_
  intro p e s m args below meth c A Q ls hx hb hts hown hml hK hP hD hS hA hret hl
  have hown : s.vm.findClass RX2 = some m.cls := hown
  refine lv_iload_n hx hb dX2_isPlace_0 rfl (lv_at hl 0 rfl) ?_
  refine lv_if_lt (tgt := 14) hx hb dX2_isPlace_1 (by decide) (fun c1 => ?_) (fun c1 => ?_)
  · have hM := g_pos c1 hM
    refine lv_iconst (v := 0) hx hb dX2_isPlace_14 (by decide) ?_
    obtain rfl := si1 hM
    exact hret _ _ _ _ _ dX2_isPlace_15 rfl rfl hP hD hS
  · have hM := g_neg c1 hM
    refine lv_iload_n hx hb dX2_isPlace_4 rfl (lv_at hl 0 rfl) ?_
    refine lv_bipush (v := 6) hx hb dX2_isPlace_5 (by decide) ?_
    refine lv_icmp_ge (tgt := 14) hx hb dX2_isPlace_7 (by decide) (fun c7 => ?_) (fun c7 => ?_)
    · have hM := g_pos c7 hM
      refine lv_iconst (v := 0) hx hb dX2_isPlace_14 (by decide) ?_
      obtain rfl := si1 hM
      exact hret _ _ _ _ _ dX2_isPlace_15 rfl rfl hP hD hS
    · have hM := g_neg c7 hM
      refine lv_iconst (v := 1) hx hb dX2_isPlace_10 (by decide) ?_
      refine lv_goto (tgt := 15) hx hb dX2_isPlace_11 (by decide) ?_
      obtain rfl := si1 hM
      exact hret _ _ _ _ _ dX2_isPlace_15 rfl rfl hP hD hS

-- ===== X2_isUp isUp (I)Z =====
abbrev r2_isUp : Room := { frames := 1, cells := 0, slots := 0, locals := 20 }
def f2_isUp (N : Nat) (p1 : Int32) (v_out : Nat → Int32) : Option Int32 :=
  ob1 (f2_isPlace N p1) fun r1 => if r1 = (0 : Int32) then (some (0 : Int32)) else (gi p1 6 (if (v_out p1.toNatClampNeg) = (-1 : Int32) then (some (1 : Int32)) else (some (0 : Int32))))
set_option maxHeartbeats 4000000 in
set_option maxRecDepth 100000 in
theorem c2_isUp (l : Launch) (D : va_G) (cy : Nat → ClassId) (N : Nat) (h0 h0_out : Nat) (oh0_0 oh0_1 oh0_2 oh0_3 oh0_4 : Value) (p1 : Int32) (v_out : Nat → Int32) (r : Int32) (hM : f2_isUp N p1 v_out = some r) (sz : Nat) : CTi l yX2_isUp wsX2_isUp r2_isUp [.ref h0, .int p1] D cy sz [(h0, .inr (2, [oh0_0, oh0_1, oh0_2, oh0_3, oh0_4, .ref h0_out])), (h0_out, .inl (cy 2, 6, .inl v_out))] [(h0, .inr (2, [oh0_0, oh0_1, oh0_2, oh0_3, oh0_4, .ref h0_out])), (h0_out, .inl (cy 2, 6, .inl v_out))] r := by
  unfold f2_isUp at hM
  refine ct_oi (cc := cX2_isUp) (maxL := 2) (ty := .boolean) (by decide +kernel) rfl (Nat.le_of_ble_eq_true rfl) (lv0 := [(0, .ref h0), (1, .int p1)]) rfl ?_
  intro p e s m args below meth c A Q ls hx hb hts hown hml hK hP hD hS hA hret hl
  have hown : s.vm.findClass RX2 = some m.cls := hown
  have k18 := hts (.fieldLink RX2 18 "CaveYears$Folk" "out" "[I") (List.mem_of_getElem? (i := 1) rfl)
  have iX2 := (fun w h => (List.mem_cons_of_mem _ (List.mem_append_right _ h)) : ∀ w ∈ wsX20, w ∈ wsX2_isUp)
  refine lv_iload_n hx hb dX2_isUp_0 rfl (lv_at hl 1 rfl) ?_
  obtain ⟨r1, hc1, hM⟩ := ob1_some hM
  refine cl_si (As := [.int p1]) (rest := []) (wr := [(h0, .inr (2, [oh0_0, oh0_1, oh0_2, oh0_3, oh0_4, .ref h0_out])), (h0_out, .inl (cy 2, 6, .inl v_out))]) (ws2 := [(h0, .inr (2, [oh0_0, oh0_1, oh0_2, oh0_3, oh0_4, .ref h0_out])), (h0_out, .inl (cy 2, 6, .inl v_out))]) (isC := []) (isR := [0, 1]) (pm := [0, 1]) hx hb hml hown hts (c2_isPlace l D cy N p1 r1 hc1) (va_cwS 1 hts gX2_isUp_X2_isPlace rfl rfl rfl (by decide +kernel) ⟨Nat.le_of_ble_eq_true rfl, Nat.le_of_ble_eq_true rfl⟩) hK hP hD hS hA rfl rfl rfl (by decide) rfl rfl rfl hl.1 (Nat.le_of_ble_eq_true rfl) dX2_isUp_1 ⟨Nat.zero_le _, Nat.zero_le _⟩ rfl rfl (fun H locs hP hD hS => ?_)
  refine lv_if_eq (tgt := 21) hx hb dX2_isUp_4 (by decide) (fun c4 => ?_) (fun c4 => ?_)
  · have hM := g_pos c4 hM
    refine lv_iconst (v := 0) hx hb dX2_isUp_21 (by decide) ?_
    obtain rfl := si1 hM
    exact hret _ _ _ _ _ dX2_isUp_22 rfl rfl hP hD hS
  · have hM := g_neg c4 hM
    refine lv_aload_n hx hb dX2_isUp_7 rfl (lv_at hl 0 rfl) ?_
    refine va_get (D := D) (ci := 2) (v := .ref h0_out) (C := RX2) (T := TX2) (N := 6) hx hb hts iX2 hown hK hP 0 rfl rfl 5 (by decide) k18 (fun _ h9 => h9) rfl dX2_isUp_8 ?_
    refine lv_iload_n hx hb dX2_isUp_11 rfl (lv_at hl 1 rfl) ?_
    obtain ⟨h12, hM⟩ := gi_some hM
    refine va_iald hx hb hK hP 1 2 rfl rfl h12 dX2_isUp_12 ?_
    refine lv_iconst (v := -1) hx hb dX2_isUp_13 (by decide) ?_
    refine lv_icmp_ne (tgt := 21) hx hb dX2_isUp_14 (by decide) (fun c14 => ?_) (fun c14 => ?_)
    · have hM := g_neg c14 hM
      refine lv_iconst (v := 0) hx hb dX2_isUp_21 (by decide) ?_
      obtain rfl := si1 hM
      exact hret _ _ _ _ _ dX2_isUp_22 rfl rfl hP hD hS
    · have hM := g_pos c14 hM
      refine lv_iconst (v := 1) hx hb dX2_isUp_17 (by decide) ?_
      refine lv_goto (tgt := 22) hx hb dX2_isUp_18 (by decide) ?_
      obtain rfl := si1 hM
      exact hret _ _ _ _ _ dX2_isUp_22 rfl rfl hP hD hS

-- ===== X2_downSet downSet (I)I =====
abbrev r2_downSet : Room := { frames := 0, cells := 0, slots := 0, locals := 0 }
def f2_downSet_L4 (N : Nat) (p1 : Int32) (v_out : Nat → Int32) : Nat → Int32 → Int32 → Option Int32
  | 0, _, _ => none
  | n + 1, x2_4, x3_4 => if p1 ≤ x3_4 then (some x2_4) else (if (6 : Int32) ≤ x3_4 then (some x2_4) else (gi x3_4 6 (if (v_out x3_4.toNatClampNeg) = (-1 : Int32) then ((f2_downSet_L4 N p1 v_out n) x2_4 (x3_4 + (1 : Int32))) else ((f2_downSet_L4 N p1 v_out n) (x2_4 ||| ((1 : Int32) <<< (x3_4 &&& 31))) (x3_4 + (1 : Int32))))))
def f2_downSet (N : Nat) (p1 : Int32) (v_out : Nat → Int32) : Option Int32 :=
  ob1 (f2_downSet_L4 N p1 v_out N (0 : Int32) (0 : Int32)) fun e2_4 => some e2_4
set_option maxHeartbeats 4000000 in
set_option maxRecDepth 100000 in
theorem c2_downSet (l : Launch) (D : va_G) (cy : Nat → ClassId) (N : Nat) (h0 h0_out : Nat) (oh0_0 oh0_1 oh0_2 oh0_3 oh0_4 : Value) (p1 : Int32) (v_out : Nat → Int32) (r : Int32) (hM : f2_downSet N p1 v_out = some r) (sz : Nat) : CTi l yX2_downSet wsX2_downSet r2_downSet [.ref h0, .int p1] D cy sz [(h0, .inr (2, [oh0_0, oh0_1, oh0_2, oh0_3, oh0_4, .ref h0_out])), (h0_out, .inl (cy 2, 6, .inl v_out))] [(h0, .inr (2, [oh0_0, oh0_1, oh0_2, oh0_3, oh0_4, .ref h0_out])), (h0_out, .inl (cy 2, 6, .inl v_out))] r := by
  unfold f2_downSet at hM
  refine ct_oi (cc := cX2_downSet) (maxL := 4) (ty := .int) (by decide +kernel) rfl (Nat.le_of_ble_eq_true rfl) (lv0 := [(0, .ref h0), (1, .int p1)]) rfl ?_
  intro p e s m args below meth c A Q ls hx hb hts hown hml hK hP hD hS hA hret hl
  have hown : s.vm.findClass RX2 = some m.cls := hown
  have k18 := hts (.fieldLink RX2 18 "CaveYears$Folk" "out" "[I") (List.mem_of_getElem? (i := 1) rfl)
  have iX2 := (fun w h => (List.mem_cons_of_mem _ (List.mem_append_right _ h)) : ∀ w ∈ wsX20, w ∈ wsX2_downSet)
  refine lv_iconst (v := 0) hx hb dX2_downSet_0 (by decide) ?_
  refine lv_istore_n (lv' := [(2, .int (0 : Int32)), (0, .ref h0), (1, .int p1)]) hx hb dX2_downSet_1 rfl hl (by decide) rfl (fun ls hl => ?_)
  refine lv_iconst (v := 0) hx hb dX2_downSet_2 (by decide) ?_
  refine lv_istore_n (lv' := [(3, .int (0 : Int32)), (2, .int (0 : Int32)), (0, .ref h0), (1, .int p1)]) hx hb dX2_downSet_3 rfl hl (by decide) rfl (fun ls hl => ?_)
  have L4 : ∀ (n : Nat) (x2_4 : Int32) (x3_4 : Int32) (e2_4 : Int32) (H : Heap) (locs : List Loc) (ls : Array Slot), f2_downSet_L4 N p1 v_out n x2_4 x3_4 = some e2_4 → va_P D vwCl [(h0, .inr (2, [oh0_0, oh0_1, oh0_2, oh0_3, oh0_4, .ref h0_out])), (h0_out, .inl (cy 2, 6, .inl v_out))] H → va_D A [(h0, .inr (2, [oh0_0, oh0_1, oh0_2, oh0_3, oh0_4, .ref h0_out])), (h0_out, .inl (cy 2, 6, .inl v_out))] → va_S A s.heap H locs → lv_has ls 4 [(0, .ref h0), (1, .int p1), (2, .int x2_4), (3, .int x3_4)] → (∀ (H : Heap) (locs : List Loc) (ls : Array Slot), va_P D vwCl [(h0, .inr (2, [oh0_0, oh0_1, oh0_2, oh0_3, oh0_4, .ref h0_out])), (h0_out, .inl (cy 2, 6, .inl v_out))] H → va_D A [(h0, .inr (2, [oh0_0, oh0_1, oh0_2, oh0_3, oh0_4, .ref h0_out])), (h0_out, .inl (cy 2, 6, .inl v_out))] → va_S A s.heap H locs → lv_has ls 4 [(2, .int e2_4)] → W p l e r2_downSet s m args below meth c H locs 0 0 Q (F0 m 37 ls [])) → W p l e r2_downSet s m args below meth c H locs 0 0 Q (F0 m 4 ls []) := by
    intro n
    induction n with
    | zero =>
      intro x2_4 x3_4 e2_4 H locs ls hM
      exact absurd hM (by simp [f2_downSet_L4])
    | succ n ih =>
      intro x2_4 x3_4 e2_4 H locs ls hM hP hD hS hl K
      rw [f2_downSet_L4] at hM
      refine lv_iload_n hx hb dX2_downSet_4 rfl (lv_at hl 3 rfl) ?_
      refine lv_iload_n hx hb dX2_downSet_5 rfl (lv_at hl 1 rfl) ?_
      refine lv_icmp_ge (tgt := 37) hx hb dX2_downSet_6 (by decide) (fun c6 => ?_) (fun c6 => ?_)
      · have hM := g_pos c6 hM
        obtain rfl := si1 hM
        exact K _ _ _ hP hD hS (lv_sub hl [2] rfl)
      · have hM := g_neg c6 hM
        refine lv_iload_n hx hb dX2_downSet_9 rfl (lv_at hl 3 rfl) ?_
        refine lv_bipush (v := 6) hx hb dX2_downSet_10 (by decide) ?_
        refine lv_icmp_ge (tgt := 37) hx hb dX2_downSet_12 (by decide) (fun c12 => ?_) (fun c12 => ?_)
        · have hM := g_pos c12 hM
          obtain rfl := si1 hM
          exact K _ _ _ hP hD hS (lv_sub hl [2] rfl)
        · have hM := g_neg c12 hM
          refine lv_aload_n hx hb dX2_downSet_15 rfl (lv_at hl 0 rfl) ?_
          refine va_get (D := D) (ci := 2) (v := .ref h0_out) (C := RX2) (T := TX2) (N := 6) hx hb hts iX2 hown hK hP 0 rfl rfl 5 (by decide) k18 (fun _ h9 => h9) rfl dX2_downSet_16 ?_
          refine lv_iload_n hx hb dX2_downSet_19 rfl (lv_at hl 3 rfl) ?_
          obtain ⟨h20, hM⟩ := gi_some hM
          refine va_iald hx hb hK hP 1 2 rfl rfl h20 dX2_downSet_20 ?_
          refine lv_iconst (v := -1) hx hb dX2_downSet_21 (by decide) ?_
          refine lv_icmp_eq (tgt := 31) hx hb dX2_downSet_22 (by decide) (fun c22 => ?_) (fun c22 => ?_)
          · have hM := g_pos c22 hM
            refine lv_iinc (v := x3_4 + (1 : Int32)) (lv' := [(3, .int (x3_4 + (1 : Int32))), (0, .ref h0), (1, .int p1), (2, .int x2_4)]) hx hb dX2_downSet_31 hl (k := 3) rfl rfl (by decide) rfl (fun ls hl => ?_)
            refine lv_goto (tgt := 4) hx hb dX2_downSet_34 (by decide) ?_
            exact ih x2_4 (x3_4 + (1 : Int32)) e2_4 _ _ _ hM hP hD hS (lv_sub hl [1, 2, 3, 0] rfl) K
          · have hM := g_neg c22 hM
            refine lv_iload_n hx hb dX2_downSet_25 rfl (lv_at hl 2 rfl) ?_
            refine lv_iconst (v := 1) hx hb dX2_downSet_26 (by decide) ?_
            refine lv_iload_n hx hb dX2_downSet_27 rfl (lv_at hl 3 rfl) ?_
            refine lv_ishl hx hb dX2_downSet_28 ?_
            refine lv_ior hx hb dX2_downSet_29 ?_
            refine lv_istore_n (lv' := [(2, .int (x2_4 ||| ((1 : Int32) <<< (x3_4 &&& 31)))), (0, .ref h0), (1, .int p1), (3, .int x3_4)]) hx hb dX2_downSet_30 rfl hl (by decide) rfl (fun ls hl => ?_)
            refine lv_iinc (v := x3_4 + (1 : Int32)) (lv' := [(3, .int (x3_4 + (1 : Int32))), (2, .int (x2_4 ||| ((1 : Int32) <<< (x3_4 &&& 31)))), (0, .ref h0), (1, .int p1)]) hx hb dX2_downSet_31 hl (k := 3) rfl rfl (by decide) rfl (fun ls hl => ?_)
            refine lv_goto (tgt := 4) hx hb dX2_downSet_34 (by decide) ?_
            exact ih (x2_4 ||| ((1 : Int32) <<< (x3_4 &&& 31))) (x3_4 + (1 : Int32)) e2_4 _ _ _ hM hP hD hS (lv_sub hl [2, 3, 1, 0] rfl) K
  obtain ⟨e2_4, hL4, hM⟩ := ob1_some hM
  refine L4 N (0 : Int32) (0 : Int32) e2_4 _ _ _ hL4 hP hD hS (lv_sub hl [2, 3, 1, 0] rfl) ?_
  intro H locs ls hP hD hS hl
  refine lv_iload_n hx hb dX2_downSet_37 rfl (lv_at hl 0 rfl) ?_
  obtain rfl := si1 hM
  exact hret _ _ _ _ _ dX2_downSet_38 rfl rfl hP hD hS

-- ===== X2_goIn goIn (III)V =====
abbrev r2_goIn : Room := { frames := 1, cells := 0, slots := 0, locals := 20 }
def f2_goIn (N : Nat) (p1 : Int32) (p2 : Int32) (p3 : Int32) (v_date : Int32) (v_age : Nat → Int32) (v_out : Nat → Int32) : Option ((Nat → Int32) × (Nat → Int32)) :=
  ob1 (f2_isPlace N p1) fun r1 => if r1 = (0 : Int32) then (some (v_age, v_out)) else (gi p1 6 (gi p1 6 (gi p1 6 (some ((upd v_age p1.toNatClampNeg ((v_age p1.toNatClampNeg) + p2)), (upd v_out p1.toNatClampNeg (v_date + p3)))))))
set_option maxHeartbeats 4000000 in
set_option maxRecDepth 100000 in
theorem c2_goIn (l : Launch) (D : va_G) (cy : Nat → ClassId) (N : Nat) (h0 h0_age h0_out : Nat) (oh0_0 oh0_2 oh0_4 : Value) (p1 : Int32) (p2 : Int32) (p3 : Int32) (v_date : Int32) (v_age : Nat → Int32) (v_out : Nat → Int32) (nv_age : Nat → Int32) (nv_out : Nat → Int32) (hM : f2_goIn N p1 p2 p3 v_date v_age v_out = some (nv_age, nv_out)) (sz : Nat) : CTv l yX2_goIn wsX2_goIn r2_goIn [.ref h0, .int p1, .int p2, .int p3] D cy sz [(h0, .inr (2, [oh0_0, .int v_date, oh0_2, .ref h0_age, oh0_4, .ref h0_out])), (h0_age, .inl (cy 2, 6, .inl v_age)), (h0_out, .inl (cy 2, 6, .inl v_out))] [(h0, .inr (2, [oh0_0, .int v_date, oh0_2, .ref h0_age, oh0_4, .ref h0_out])), (h0_age, .inl (cy 2, 6, .inl nv_age)), (h0_out, .inl (cy 2, 6, .inl nv_out))] := by
  unfold f2_goIn at hM
  refine ct_ov (cc := cX2_goIn) (maxL := 4)  (by decide +kernel) rfl (Nat.le_of_ble_eq_true rfl) (lv0 := [(0, .ref h0), (1, .int p1), (2, .int p2), (3, .int p3)]) rfl ?_
  intro p e s m args below meth c A Q ls hx hb hts hown hml hK hP hD hS hA hret hl
  have hown : s.vm.findClass RX2 = some m.cls := hown
  have k9 := hts (.fieldLink RX2 9 "CaveYears$Folk" "age" "[I") (List.mem_of_getElem? (i := 1) rfl)
  have iX2 := (fun w h => (List.mem_cons_of_mem _ (List.mem_append_right _ h)) : ∀ w ∈ wsX20, w ∈ wsX2_goIn)
  have k18 := hts (.fieldLink RX2 18 "CaveYears$Folk" "out" "[I") (List.mem_of_getElem? (i := 2) rfl)
  have k21 := hts (.fieldLink RX2 21 "CaveYears$Folk" "date" "I") (List.mem_of_getElem? (i := 3) rfl)
  refine lv_iload_n hx hb dX2_goIn_0 rfl (lv_at hl 1 rfl) ?_
  obtain ⟨r1, hc1, hM⟩ := ob1_some hM
  refine cl_si (As := [.int p1]) (rest := []) (wr := [(h0, .inr (2, [oh0_0, .int v_date, oh0_2, .ref h0_age, oh0_4, .ref h0_out])), (h0_age, .inl (cy 2, 6, .inl v_age)), (h0_out, .inl (cy 2, 6, .inl v_out))]) (ws2 := [(h0, .inr (2, [oh0_0, .int v_date, oh0_2, .ref h0_age, oh0_4, .ref h0_out])), (h0_age, .inl (cy 2, 6, .inl v_age)), (h0_out, .inl (cy 2, 6, .inl v_out))]) (isC := []) (isR := [0, 1, 2]) (pm := [0, 1, 2]) hx hb hml hown hts (c2_isPlace l D cy N p1 r1 hc1) (va_cwS 1 hts gX2_goIn_X2_isPlace rfl rfl rfl (by decide +kernel) ⟨Nat.le_of_ble_eq_true rfl, Nat.le_of_ble_eq_true rfl⟩) hK hP hD hS hA rfl rfl rfl (by decide) rfl rfl rfl hl.1 (Nat.le_of_ble_eq_true rfl) dX2_goIn_1 ⟨Nat.zero_le _, Nat.zero_le _⟩ rfl rfl (fun H locs hP hD hS => ?_)
  refine lv_if_eq (tgt := 29) hx hb dX2_goIn_4 (by decide) (fun c4 => ?_) (fun c4 => ?_)
  · have hM := g_pos c4 hM
    obtain ⟨rfl, rfl⟩ := si2 hM
    exact hret _ _ _ _ dX2_goIn_29 hP hD hS
  · have hM := g_neg c4 hM
    refine lv_aload_n hx hb dX2_goIn_7 rfl (lv_at hl 0 rfl) ?_
    refine va_get (D := D) (ci := 2) (v := .ref h0_age) (C := RX2) (T := TX2) (N := 6) hx hb hts iX2 hown hK hP 0 rfl rfl 3 (by decide) k9 (fun _ h9 => h9) rfl dX2_goIn_8 ?_
    refine lv_iload_n hx hb dX2_goIn_11 rfl (lv_at hl 1 rfl) ?_
    refine lv_dup2_11 hx hb dX2_goIn_12 rfl rfl ?_
    obtain ⟨h13, hM⟩ := gi_some hM
    refine va_iald hx hb hK hP 1 2 rfl rfl h13 dX2_goIn_13 ?_
    refine lv_iload_n hx hb dX2_goIn_14 rfl (lv_at hl 2 rfl) ?_
    refine lv_iadd hx hb dX2_goIn_15 ?_
    obtain ⟨h16, hM⟩ := gi_some hM
    refine va_iast hx hb hK hP hD hS 1 2 rfl rfl h16 dX2_goIn_16 (fun H locs hP hD hS => ?_)
    have hP : va_P D vwCl [(h0, .inr (2, [oh0_0, .int v_date, oh0_2, .ref h0_age, oh0_4, .ref h0_out])), (h0_age, .inl (cy 2, 6, .inl (upd v_age p1.toNatClampNeg ((v_age p1.toNatClampNeg) + p2)))), (h0_out, .inl (cy 2, 6, .inl v_out))] H := hP
    have hD : va_D A [(h0, .inr (2, [oh0_0, .int v_date, oh0_2, .ref h0_age, oh0_4, .ref h0_out])), (h0_age, .inl (cy 2, 6, .inl (upd v_age p1.toNatClampNeg ((v_age p1.toNatClampNeg) + p2)))), (h0_out, .inl (cy 2, 6, .inl v_out))] := hD
    refine lv_aload_n hx hb dX2_goIn_17 rfl (lv_at hl 0 rfl) ?_
    refine va_get (D := D) (ci := 2) (v := .ref h0_out) (C := RX2) (T := TX2) (N := 6) hx hb hts iX2 hown hK hP 0 rfl rfl 5 (by decide) k18 (fun _ h9 => h9) rfl dX2_goIn_18 ?_
    refine lv_iload_n hx hb dX2_goIn_21 rfl (lv_at hl 1 rfl) ?_
    refine lv_aload_n hx hb dX2_goIn_22 rfl (lv_at hl 0 rfl) ?_
    refine va_get (D := D) (ci := 2) (v := .int v_date) (C := RX2) (T := TX2) (N := 6) hx hb hts iX2 hown hK hP 0 rfl rfl 1 (by decide) k21 (fun _ h9 => h9) rfl dX2_goIn_23 ?_
    refine lv_iload_n hx hb dX2_goIn_26 rfl (lv_at hl 3 rfl) ?_
    refine lv_iadd hx hb dX2_goIn_27 ?_
    obtain ⟨h28, hM⟩ := gi_some hM
    refine va_iast hx hb hK hP hD hS 2 2 rfl rfl h28 dX2_goIn_28 (fun H locs hP hD hS => ?_)
    have hP : va_P D vwCl [(h0, .inr (2, [oh0_0, .int v_date, oh0_2, .ref h0_age, oh0_4, .ref h0_out])), (h0_age, .inl (cy 2, 6, .inl (upd v_age p1.toNatClampNeg ((v_age p1.toNatClampNeg) + p2)))), (h0_out, .inl (cy 2, 6, .inl (upd v_out p1.toNatClampNeg (v_date + p3))))] H := hP
    have hD : va_D A [(h0, .inr (2, [oh0_0, .int v_date, oh0_2, .ref h0_age, oh0_4, .ref h0_out])), (h0_age, .inl (cy 2, 6, .inl (upd v_age p1.toNatClampNeg ((v_age p1.toNatClampNeg) + p2)))), (h0_out, .inl (cy 2, 6, .inl (upd v_out p1.toNatClampNeg (v_date + p3))))] := hD
    obtain ⟨rfl, rfl⟩ := si2 hM
    exact hret _ _ _ _ dX2_goIn_29 hP hD hS

-- ===== X2_ageAt ageAt (II)I =====
abbrev r2_ageAt : Room := { frames := 1, cells := 0, slots := 0, locals := 24 }
def f2_ageAt (N : Nat) (p1 : Int32) (p2 : Int32) (v_date : Int32) (v_age : Nat → Int32) (v_out : Nat → Int32) : Option Int32 :=
  ob1 (f2_isPlace N p1) fun r1 => if r1 = (0 : Int32) then (some (0 : Int32)) else (gi p1 6 (gi p1 6 (some ((v_age p1.toNatClampNeg) + (if (0 : Int32) < (p2 - (if v_date < (v_out p1.toNatClampNeg) then (v_out p1.toNatClampNeg) else v_date)) then (p2 - (if v_date < (v_out p1.toNatClampNeg) then (v_out p1.toNatClampNeg) else v_date)) else (0 : Int32))))))
set_option maxHeartbeats 4000000 in
set_option maxRecDepth 100000 in
theorem c2_ageAt (l : Launch) (D : va_G) (cy : Nat → ClassId) (N : Nat) (h0 h0_age h0_out : Nat) (oh0_0 oh0_2 oh0_4 : Value) (p1 : Int32) (p2 : Int32) (v_date : Int32) (v_age : Nat → Int32) (v_out : Nat → Int32) (r : Int32) (hM : f2_ageAt N p1 p2 v_date v_age v_out = some r) (sz : Nat) : CTi l yX2_ageAt wsX2_ageAt r2_ageAt [.ref h0, .int p1, .int p2] D cy sz [(h0, .inr (2, [oh0_0, .int v_date, oh0_2, .ref h0_age, oh0_4, .ref h0_out])), (h0_age, .inl (cy 2, 6, .inl v_age)), (h0_out, .inl (cy 2, 6, .inl v_out))] [(h0, .inr (2, [oh0_0, .int v_date, oh0_2, .ref h0_age, oh0_4, .ref h0_out])), (h0_age, .inl (cy 2, 6, .inl v_age)), (h0_out, .inl (cy 2, 6, .inl v_out))] r := by
  unfold f2_ageAt at hM
  refine ct_oi (cc := cX2_ageAt) (maxL := 3) (ty := .int) (by decide +kernel) rfl (Nat.le_of_ble_eq_true rfl) (lv0 := [(0, .ref h0), (1, .int p1), (2, .int p2)]) rfl ?_
  intro p e s m args below meth c A Q ls hx hb hts hown hml hK hP hD hS hA hret hl
  have hown : s.vm.findClass RX2 = some m.cls := hown
  have k9 := hts (.fieldLink RX2 9 "CaveYears$Folk" "age" "[I") (List.mem_of_getElem? (i := 1) rfl)
  have iX2 := (fun w h => (List.mem_cons_of_mem _ (List.mem_append_right _ h)) : ∀ w ∈ wsX20, w ∈ wsX2_ageAt)
  have k21 := hts (.fieldLink RX2 21 "CaveYears$Folk" "date" "I") (List.mem_of_getElem? (i := 2) rfl)
  have k18 := hts (.fieldLink RX2 18 "CaveYears$Folk" "out" "[I") (List.mem_of_getElem? (i := 3) rfl)
  have k40 := hts (.methodLink RX2 40 Lib.Math.max.name) (List.mem_of_getElem? (i := 4) rfl)
  have ks40 := hts (.static Lib.Math.max.name) (List.mem_of_getElem? (i := 5) rfl)
  have kmath := hts (.initialized "java/lang/Math") (List.mem_of_getElem? (i := 6) rfl)
  have kc40 := hts (.code Lib.Math.max.name Lib.Math.max.code 2 (some .int)) (List.mem_of_getElem? (i := 7) rfl)
  refine lv_iload_n hx hb dX2_ageAt_0 rfl (lv_at hl 1 rfl) ?_
  obtain ⟨r1, hc1, hM⟩ := ob1_some hM
  refine cl_si (As := [.int p1]) (rest := []) (wr := [(h0, .inr (2, [oh0_0, .int v_date, oh0_2, .ref h0_age, oh0_4, .ref h0_out])), (h0_age, .inl (cy 2, 6, .inl v_age)), (h0_out, .inl (cy 2, 6, .inl v_out))]) (ws2 := [(h0, .inr (2, [oh0_0, .int v_date, oh0_2, .ref h0_age, oh0_4, .ref h0_out])), (h0_age, .inl (cy 2, 6, .inl v_age)), (h0_out, .inl (cy 2, 6, .inl v_out))]) (isC := []) (isR := [0, 1, 2]) (pm := [0, 1, 2]) hx hb hml hown hts (c2_isPlace l D cy N p1 r1 hc1) (va_cwS 1 hts gX2_ageAt_X2_isPlace rfl rfl rfl (by decide +kernel) ⟨Nat.le_of_ble_eq_true rfl, Nat.le_of_ble_eq_true rfl⟩) hK hP hD hS hA rfl rfl rfl (by decide) rfl rfl rfl hl.1 (Nat.le_of_ble_eq_true rfl) dX2_ageAt_1 ⟨Nat.zero_le _, Nat.zero_le _⟩ rfl rfl (fun H locs hP hD hS => ?_)
  refine lv_if_ne (tgt := 9) hx hb dX2_ageAt_4 (by decide) (fun c4 => ?_) (fun c4 => ?_)
  · have hM := g_neg c4 hM
    refine lv_aload_n hx hb dX2_ageAt_9 rfl (lv_at hl 0 rfl) ?_
    refine va_get (D := D) (ci := 2) (v := .ref h0_age) (C := RX2) (T := TX2) (N := 6) hx hb hts iX2 hown hK hP 0 rfl rfl 3 (by decide) k9 (fun _ h9 => h9) rfl dX2_ageAt_10 ?_
    refine lv_iload_n hx hb dX2_ageAt_13 rfl (lv_at hl 1 rfl) ?_
    obtain ⟨h14, hM⟩ := gi_some hM
    refine va_iald hx hb hK hP 1 2 rfl rfl h14 dX2_ageAt_14 ?_
    refine lv_iconst (v := 0) hx hb dX2_ageAt_15 (by decide) ?_
    refine lv_iload_n hx hb dX2_ageAt_16 rfl (lv_at hl 2 rfl) ?_
    refine lv_aload_n hx hb dX2_ageAt_17 rfl (lv_at hl 0 rfl) ?_
    refine va_get (D := D) (ci := 2) (v := .int v_date) (C := RX2) (T := TX2) (N := 6) hx hb hts iX2 hown hK hP 0 rfl rfl 1 (by decide) k21 (fun _ h9 => h9) rfl dX2_ageAt_18 ?_
    refine lv_aload_n hx hb dX2_ageAt_21 rfl (lv_at hl 0 rfl) ?_
    refine va_get (D := D) (ci := 2) (v := .ref h0_out) (C := RX2) (T := TX2) (N := 6) hx hb hts iX2 hown hK hP 0 rfl rfl 5 (by decide) k18 (fun _ h9 => h9) rfl dX2_ageAt_22 ?_
    refine lv_iload_n hx hb dX2_ageAt_25 rfl (lv_at hl 1 rfl) ?_
    obtain ⟨h26, hM⟩ := gi_some hM
    refine va_iald hx hb hK hP 2 2 rfl rfl h26 dX2_ageAt_26 ?_
    refine va_mmax hx hb (hml.trans hl.1.symm) hown k40 ks40 kmath kc40 (Nat.le_of_ble_eq_true rfl) (Nat.le_of_ble_eq_true rfl) (Nat.zero_le _) (Nat.zero_le _) dX2_ageAt_27 ?_
    refine lv_isub hx hb dX2_ageAt_30 ?_
    refine va_mmax hx hb (hml.trans hl.1.symm) hown k40 ks40 kmath kc40 (Nat.le_of_ble_eq_true rfl) (Nat.le_of_ble_eq_true rfl) (Nat.zero_le _) (Nat.zero_le _) dX2_ageAt_31 ?_
    refine lv_iadd hx hb dX2_ageAt_34 ?_
    obtain rfl := si1 hM
    exact hret _ _ _ _ _ dX2_ageAt_35 rfl rfl hP hD hS
  · have hM := g_pos c4 hM
    refine lv_iconst (v := 0) hx hb dX2_ageAt_7 (by decide) ?_
    obtain rfl := si1 hM
    exact hret _ _ _ _ _ dX2_ageAt_8 rfl rfl hP hD hS

-- ===== X2_meetingDate meetingDate (II)I =====
abbrev r2_meetingDate : Room := { frames := 1, cells := 0, slots := 0, locals := 24 }
def f2_meetingDate (N : Nat) (p1 : Int32) (p2 : Int32) (v_date : Int32) (v_out : Nat → Int32) : Option Int32 :=
  ob1 (f2_isPlace N p1) fun r1 => if r1 = (0 : Int32) then (some v_date) else (ob1 (f2_isPlace N p2) fun r8 => if r8 = (0 : Int32) then (some v_date) else (gi p1 6 (gi p2 6 (some (if v_date < (if (v_out p1.toNatClampNeg) < (v_out p2.toNatClampNeg) then (v_out p2.toNatClampNeg) else (v_out p1.toNatClampNeg)) then (if (v_out p1.toNatClampNeg) < (v_out p2.toNatClampNeg) then (v_out p2.toNatClampNeg) else (v_out p1.toNatClampNeg)) else v_date)))))
set_option maxHeartbeats 4000000 in
set_option maxRecDepth 100000 in
theorem c2_meetingDate (l : Launch) (D : va_G) (cy : Nat → ClassId) (N : Nat) (h0 h0_out : Nat) (oh0_0 oh0_2 oh0_3 oh0_4 : Value) (p1 : Int32) (p2 : Int32) (v_date : Int32) (v_out : Nat → Int32) (r : Int32) (hM : f2_meetingDate N p1 p2 v_date v_out = some r) (sz : Nat) : CTi l yX2_meetingDate wsX2_meetingDate r2_meetingDate [.ref h0, .int p1, .int p2] D cy sz [(h0, .inr (2, [oh0_0, .int v_date, oh0_2, oh0_3, oh0_4, .ref h0_out])), (h0_out, .inl (cy 2, 6, .inl v_out))] [(h0, .inr (2, [oh0_0, .int v_date, oh0_2, oh0_3, oh0_4, .ref h0_out])), (h0_out, .inl (cy 2, 6, .inl v_out))] r := by
  unfold f2_meetingDate at hM
  refine ct_oi (cc := cX2_meetingDate) (maxL := 3) (ty := .int) (by decide +kernel) rfl (Nat.le_of_ble_eq_true rfl) (lv0 := [(0, .ref h0), (1, .int p1), (2, .int p2)]) rfl ?_
  intro p e s m args below meth c A Q ls hx hb hts hown hml hK hP hD hS hA hret hl
  have hown : s.vm.findClass RX2 = some m.cls := hown
  have k21 := hts (.fieldLink RX2 21 "CaveYears$Folk" "date" "I") (List.mem_of_getElem? (i := 1) rfl)
  have iX2 := (fun w h => (List.mem_cons_of_mem _ (List.mem_append_right _ h)) : ∀ w ∈ wsX20, w ∈ wsX2_meetingDate)
  have k18 := hts (.fieldLink RX2 18 "CaveYears$Folk" "out" "[I") (List.mem_of_getElem? (i := 2) rfl)
  have k40 := hts (.methodLink RX2 40 Lib.Math.max.name) (List.mem_of_getElem? (i := 3) rfl)
  have ks40 := hts (.static Lib.Math.max.name) (List.mem_of_getElem? (i := 4) rfl)
  have kmath := hts (.initialized "java/lang/Math") (List.mem_of_getElem? (i := 5) rfl)
  have kc40 := hts (.code Lib.Math.max.name Lib.Math.max.code 2 (some .int)) (List.mem_of_getElem? (i := 6) rfl)
  refine lv_iload_n hx hb dX2_meetingDate_0 rfl (lv_at hl 1 rfl) ?_
  obtain ⟨r1, hc1, hM⟩ := ob1_some hM
  refine cl_si (As := [.int p1]) (rest := []) (wr := [(h0, .inr (2, [oh0_0, .int v_date, oh0_2, oh0_3, oh0_4, .ref h0_out])), (h0_out, .inl (cy 2, 6, .inl v_out))]) (ws2 := [(h0, .inr (2, [oh0_0, .int v_date, oh0_2, oh0_3, oh0_4, .ref h0_out])), (h0_out, .inl (cy 2, 6, .inl v_out))]) (isC := []) (isR := [0, 1]) (pm := [0, 1]) hx hb hml hown hts (c2_isPlace l D cy N p1 r1 hc1) (va_cwS 1 hts gX2_meetingDate_X2_isPlace rfl rfl rfl (by decide +kernel) ⟨Nat.le_of_ble_eq_true rfl, Nat.le_of_ble_eq_true rfl⟩) hK hP hD hS hA rfl rfl rfl (by decide) rfl rfl rfl hl.1 (Nat.le_of_ble_eq_true rfl) dX2_meetingDate_1 ⟨Nat.zero_le _, Nat.zero_le _⟩ rfl rfl (fun H locs hP hD hS => ?_)
  refine lv_if_eq (tgt := 39) hx hb dX2_meetingDate_4 (by decide) (fun c4 => ?_) (fun c4 => ?_)
  · have hM := g_pos c4 hM
    refine lv_aload_n hx hb dX2_meetingDate_39 rfl (lv_at hl 0 rfl) ?_
    refine va_get (D := D) (ci := 2) (v := .int v_date) (C := RX2) (T := TX2) (N := 6) hx hb hts iX2 hown hK hP 0 rfl rfl 1 (by decide) k21 (fun _ h9 => h9) rfl dX2_meetingDate_40 ?_
    obtain rfl := si1 hM
    exact hret _ _ _ _ _ dX2_meetingDate_43 rfl rfl hP hD hS
  · have hM := g_neg c4 hM
    refine lv_iload_n hx hb dX2_meetingDate_7 rfl (lv_at hl 2 rfl) ?_
    obtain ⟨r8, hc8, hM⟩ := ob1_some hM
    refine cl_si (As := [.int p2]) (rest := []) (wr := [(h0, .inr (2, [oh0_0, .int v_date, oh0_2, oh0_3, oh0_4, .ref h0_out])), (h0_out, .inl (cy 2, 6, .inl v_out))]) (ws2 := [(h0, .inr (2, [oh0_0, .int v_date, oh0_2, oh0_3, oh0_4, .ref h0_out])), (h0_out, .inl (cy 2, 6, .inl v_out))]) (isC := []) (isR := [0, 1]) (pm := [0, 1]) hx hb hml hown hts (c2_isPlace l D cy N p2 r8 hc8) (va_cwS 1 hts gX2_meetingDate_X2_isPlace rfl rfl rfl (by decide +kernel) ⟨Nat.le_of_ble_eq_true rfl, Nat.le_of_ble_eq_true rfl⟩) hK hP hD hS hA rfl rfl rfl (by decide) rfl rfl rfl hl.1 (Nat.le_of_ble_eq_true rfl) dX2_meetingDate_8 ⟨Nat.zero_le _, Nat.zero_le _⟩ rfl rfl (fun H locs hP hD hS => ?_)
    refine lv_if_eq (tgt := 39) hx hb dX2_meetingDate_11 (by decide) (fun c11 => ?_) (fun c11 => ?_)
    · have hM := g_pos c11 hM
      refine lv_aload_n hx hb dX2_meetingDate_39 rfl (lv_at hl 0 rfl) ?_
      refine va_get (D := D) (ci := 2) (v := .int v_date) (C := RX2) (T := TX2) (N := 6) hx hb hts iX2 hown hK hP 0 rfl rfl 1 (by decide) k21 (fun _ h9 => h9) rfl dX2_meetingDate_40 ?_
      obtain rfl := si1 hM
      exact hret _ _ _ _ _ dX2_meetingDate_43 rfl rfl hP hD hS
    · have hM := g_neg c11 hM
      refine lv_aload_n hx hb dX2_meetingDate_14 rfl (lv_at hl 0 rfl) ?_
      refine va_get (D := D) (ci := 2) (v := .int v_date) (C := RX2) (T := TX2) (N := 6) hx hb hts iX2 hown hK hP 0 rfl rfl 1 (by decide) k21 (fun _ h9 => h9) rfl dX2_meetingDate_15 ?_
      refine lv_aload_n hx hb dX2_meetingDate_18 rfl (lv_at hl 0 rfl) ?_
      refine va_get (D := D) (ci := 2) (v := .ref h0_out) (C := RX2) (T := TX2) (N := 6) hx hb hts iX2 hown hK hP 0 rfl rfl 5 (by decide) k18 (fun _ h9 => h9) rfl dX2_meetingDate_19 ?_
      refine lv_iload_n hx hb dX2_meetingDate_22 rfl (lv_at hl 1 rfl) ?_
      obtain ⟨h23, hM⟩ := gi_some hM
      refine va_iald hx hb hK hP 1 2 rfl rfl h23 dX2_meetingDate_23 ?_
      refine lv_aload_n hx hb dX2_meetingDate_24 rfl (lv_at hl 0 rfl) ?_
      refine va_get (D := D) (ci := 2) (v := .ref h0_out) (C := RX2) (T := TX2) (N := 6) hx hb hts iX2 hown hK hP 0 rfl rfl 5 (by decide) k18 (fun _ h9 => h9) rfl dX2_meetingDate_25 ?_
      refine lv_iload_n hx hb dX2_meetingDate_28 rfl (lv_at hl 2 rfl) ?_
      obtain ⟨h29, hM⟩ := gi_some hM
      refine va_iald hx hb hK hP 1 2 rfl rfl h29 dX2_meetingDate_29 ?_
      refine va_mmax hx hb (hml.trans hl.1.symm) hown k40 ks40 kmath kc40 (Nat.le_of_ble_eq_true rfl) (Nat.le_of_ble_eq_true rfl) (Nat.zero_le _) (Nat.zero_le _) dX2_meetingDate_30 ?_
      refine va_mmax hx hb (hml.trans hl.1.symm) hown k40 ks40 kmath kc40 (Nat.le_of_ble_eq_true rfl) (Nat.le_of_ble_eq_true rfl) (Nat.zero_le _) (Nat.zero_le _) dX2_meetingDate_33 ?_
      refine lv_goto (tgt := 43) hx hb dX2_meetingDate_36 (by decide) ?_
      obtain rfl := si1 hM
      exact hret _ _ _ _ _ dX2_meetingDate_43 rfl rfl hP hD hS

-- ===== X2_grown grown (III)I =====
abbrev r2_grown : Room := { frames := 1, cells := 0, slots := 0, locals := 24 }
def f2_grown_L6 (N : Nat) (p2 : Int32) (p3 : Int32) : Nat → Int64 → Int32 → Option Int32
  | 0, _, _ => none
  | n + 1, x3_6, x5_6 => if p3 ≤ x5_6 then (some x3_6.toInt32) else (if (lg_cmp ((x3_6 * (p2.toInt64)) / (100 : Int64)) (0 : Int64)) = (0 : Int32) then (some x3_6.toInt32) else (if (lg_cmp x3_6 (999999999 : Int64)) < (0 : Int32) then ((f2_grown_L6 N p2 p3 n) (if (x3_6 + ((x3_6 * (p2.toInt64)) / (100 : Int64))) < (999999999 : Int64) then (x3_6 + ((x3_6 * (p2.toInt64)) / (100 : Int64))) else (999999999 : Int64)) (x5_6 + (1 : Int32))) else (some x3_6.toInt32)))
def f2_grown (N : Nat) (p1 : Int32) (p2 : Int32) (p3 : Int32) : Option Int32 :=
  f2_grown_L6 N p2 p3 N (p1.toInt64) (0 : Int32)
set_option maxHeartbeats 4000000 in
set_option maxRecDepth 100000 in
theorem c2_grown (l : Launch) (D : va_G) (cy : Nat → ClassId) (N : Nat) (p1 : Int32) (p2 : Int32) (p3 : Int32) (r : Int32) (hM : f2_grown N p1 p2 p3 = some r) (sz : Nat) : CTi l yX2_grown wsX2_grown r2_grown [.int p1, .int p2, .int p3] D cy sz [] [] r := by
  unfold f2_grown at hM
  refine ct_oi (cc := cX2_grown) (maxL := 8) (ty := .int) (by decide +kernel) rfl (Nat.le_of_ble_eq_true rfl) (lv0 := [(0, .int p1), (1, .int p2), (2, .int p3)]) rfl ?_
  intro p e s m args below meth c A Q ls hx hb hts hown hml hK hP hD hS hA hret hl
  have hown : s.vm.findClass RX2 = some m.cls := hown
  have k93 := hts (.constantLong RX2 93 (100)) (List.mem_of_getElem? (i := 1) rfl)
  have k95 := hts (.constantLong RX2 95 (999999999)) (List.mem_of_getElem? (i := 2) rfl)
  have k97 := hts (.methodLink RX2 97 Lib.MathLoose.min_long.x) (List.mem_of_getElem? (i := 3) rfl)
  have ks97 := hts (.static Lib.MathLoose.min_long.x) (List.mem_of_getElem? (i := 4) rfl)
  have kmath := hts (.initialized "java/lang/Math") (List.mem_of_getElem? (i := 5) rfl)
  have kc97 := hts (.code Lib.MathLoose.min_long.x Lib.MathLoose.min_long.code 4 (some .long)) (List.mem_of_getElem? (i := 6) rfl)
  refine lv_iload_n hx hb dX2_grown_0 rfl (lv_at hl 0 rfl) ?_
  refine lv_i2l (v := p1.toInt64) hx hb dX2_grown_1 rfl ?_
  refine lv_lstore_n (lv' := [(3, .long (p1.toInt64)), (0, .int p1), (1, .int p2), (2, .int p3)]) hx hb dX2_grown_2 rfl hl (by decide) rfl (fun ls hl => ?_)
  refine lv_iconst (v := 0) hx hb dX2_grown_3 (by decide) ?_
  refine lv_istore (lv' := [(5, .int (0 : Int32)), (3, .long (p1.toInt64)), (0, .int p1), (1, .int p2), (2, .int p3)]) hx hb dX2_grown_4 hl (by decide) rfl (fun ls hl => ?_)
  have L6 : ∀ (n : Nat) (x3_6 : Int64) (x5_6 : Int32) (H : Heap) (locs : List Loc) (ls : Array Slot), f2_grown_L6 N p2 p3 n x3_6 x5_6 = some r → va_P D vwCl [] H → va_D A [] → va_S A s.heap H locs → lv_has ls 8 [(1, .int p2), (2, .int p3), (3, .long x3_6), (5, .int x5_6)] → W p l e r2_grown s m args below meth c H locs 0 0 Q (F0 m 6 ls []) := by
    intro n
    induction n with
    | zero =>
      intro x3_6 x5_6 H locs ls hM
      exact absurd hM (by simp [f2_grown_L6])
    | succ n ih =>
      intro x3_6 x5_6 H locs ls hM hP hD hS hl
      rw [f2_grown_L6] at hM
      refine lv_iload hx hb dX2_grown_6 (lv_at hl 3 rfl) ?_
      refine lv_iload_n hx hb dX2_grown_8 rfl (lv_at hl 1 rfl) ?_
      refine lv_icmp_ge (tgt := 57) hx hb dX2_grown_9 (by decide) (fun c9 => ?_) (fun c9 => ?_)
      · have hM := g_pos c9 hM
        refine lv_lload_n hx hb dX2_grown_57 rfl (lv_at hl 2 rfl) ?_
        refine lv_l2i (v := x3_6.toInt32) hx hb dX2_grown_58 rfl ?_
        obtain rfl := si1 hM
        exact hret _ _ _ _ _ dX2_grown_59 rfl rfl hP hD hS
      · have hM := g_neg c9 hM
        refine lv_lload_n hx hb dX2_grown_12 rfl (lv_at hl 2 rfl) ?_
        refine lv_iload_n hx hb dX2_grown_13 rfl (lv_at hl 0 rfl) ?_
        refine lv_i2l (v := p2.toInt64) hx hb dX2_grown_14 rfl ?_
        refine lv_lmul hx hb dX2_grown_15 ?_
        refine lv_ldc2 (v := 100) hx hb hown k93 dX2_grown_16 ?_
        refine lv_ldiv hx hb dX2_grown_19 (by decide) ?_
        refine lv_lstore (lv' := [(6, .long ((x3_6 * (p2.toInt64)) / (100 : Int64))), (1, .int p2), (2, .int p3), (3, .long x3_6), (5, .int x5_6)]) hx hb dX2_grown_20 hl (by decide) rfl (fun ls hl => ?_)
        refine lv_lload hx hb dX2_grown_22 (lv_at hl 0 rfl) ?_
        refine lv_lconst (v := 0) hx hb dX2_grown_24 (by decide) ?_
        refine W.lcmp hx hb dX2_grown_25 ?_
        refine lv_if_eq (tgt := 57) hx hb dX2_grown_26 (by decide) (fun c26 => ?_) (fun c26 => ?_)
        · have hM := g_pos c26 hM
          refine lv_lload_n hx hb dX2_grown_57 rfl (lv_at hl 3 rfl) ?_
          refine lv_l2i (v := x3_6.toInt32) hx hb dX2_grown_58 rfl ?_
          obtain rfl := si1 hM
          exact hret _ _ _ _ _ dX2_grown_59 rfl rfl hP hD hS
        · have hM := g_neg c26 hM
          refine lv_lload_n hx hb dX2_grown_29 rfl (lv_at hl 3 rfl) ?_
          refine lv_ldc2 (v := 999999999) hx hb hown k95 dX2_grown_30 ?_
          refine W.lcmp hx hb dX2_grown_33 ?_
          refine lv_if_lt (tgt := 40) hx hb dX2_grown_34 (by decide) (fun c34 => ?_) (fun c34 => ?_)
          · have hM := g_pos c34 hM
            refine lv_ldc2 (v := 999999999) hx hb hown k95 dX2_grown_40 ?_
            refine lv_lload_n hx hb dX2_grown_43 rfl (lv_at hl 3 rfl) ?_
            refine lv_lload hx hb dX2_grown_44 (lv_at hl 0 rfl) ?_
            refine lv_ladd hx hb dX2_grown_46 ?_
            refine va_mmin_long hx hb (hml.trans hl.1.symm) hown k97 ks97 kmath kc97 (Nat.le_of_ble_eq_true rfl) (Nat.le_of_ble_eq_true rfl) (Nat.zero_le _) (Nat.zero_le _) dX2_grown_47 ?_
            refine lv_lstore_n (lv' := [(3, .long (if (x3_6 + ((x3_6 * (p2.toInt64)) / (100 : Int64))) < (999999999 : Int64) then (x3_6 + ((x3_6 * (p2.toInt64)) / (100 : Int64))) else (999999999 : Int64))), (6, .long ((x3_6 * (p2.toInt64)) / (100 : Int64))), (1, .int p2), (2, .int p3), (5, .int x5_6)]) hx hb dX2_grown_50 rfl hl (by decide) rfl (fun ls hl => ?_)
            refine lv_iinc (v := x5_6 + (1 : Int32)) (lv' := [(5, .int (x5_6 + (1 : Int32))), (3, .long (if (x3_6 + ((x3_6 * (p2.toInt64)) / (100 : Int64))) < (999999999 : Int64) then (x3_6 + ((x3_6 * (p2.toInt64)) / (100 : Int64))) else (999999999 : Int64))), (6, .long ((x3_6 * (p2.toInt64)) / (100 : Int64))), (1, .int p2), (2, .int p3)]) hx hb dX2_grown_51 hl (k := 4) rfl rfl (by decide) rfl (fun ls hl => ?_)
            refine lv_goto (tgt := 6) hx hb dX2_grown_54 (by decide) ?_
            exact ih (if (x3_6 + ((x3_6 * (p2.toInt64)) / (100 : Int64))) < (999999999 : Int64) then (x3_6 + ((x3_6 * (p2.toInt64)) / (100 : Int64))) else (999999999 : Int64)) (x5_6 + (1 : Int32)) _ _ _ hM hP hD hS (lv_sub hl [3, 4, 1, 0] rfl)
          · have hM := g_neg c34 hM
            refine lv_goto (tgt := 57) hx hb dX2_grown_37 (by decide) ?_
            refine lv_lload_n hx hb dX2_grown_57 rfl (lv_at hl 3 rfl) ?_
            refine lv_l2i (v := x3_6.toInt32) hx hb dX2_grown_58 rfl ?_
            obtain rfl := si1 hM
            exact hret _ _ _ _ _ dX2_grown_59 rfl rfl hP hD hS
  exact L6 N (p1.toInt64) (0 : Int32) _ _ _ hM hP hD hS (lv_sub hl [3, 4, 1, 0] rfl)

-- ===== X2_richesAt richesAt (III)I =====
abbrev r2_richesAt : Room := { frames := 2, cells := 0, slots := 0, locals := 51 }
def f2_richesAt (N : Nat) (p1 : Int32) (p2 : Int32) (p3 : Int32) (v_date : Int32) (v_riches : Nat → Int32) : Option Int32 :=
  ob1 (f2_isPlace N p1) fun r1 => if r1 = (0 : Int32) then (some (0 : Int32)) else (gi p1 6 (ob1 (f2_grown N (v_riches p1.toNatClampNeg) p3 ((p2 / (60 : Int32)) - (v_date / (60 : Int32)))) fun r26 => some r26))
set_option maxHeartbeats 4000000 in
set_option maxRecDepth 100000 in
theorem c2_richesAt (l : Launch) (D : va_G) (cy : Nat → ClassId) (N : Nat) (h0 h0_riches : Nat) (oh0_0 oh0_2 oh0_3 oh0_5 : Value) (p1 : Int32) (p2 : Int32) (p3 : Int32) (v_date : Int32) (v_riches : Nat → Int32) (r : Int32) (hM : f2_richesAt N p1 p2 p3 v_date v_riches = some r) (sz : Nat) : CTi l yX2_richesAt wsX2_richesAt r2_richesAt [.ref h0, .int p1, .int p2, .int p3] D cy sz [(h0, .inr (2, [oh0_0, .int v_date, oh0_2, oh0_3, .ref h0_riches, oh0_5])), (h0_riches, .inl (cy 2, 6, .inl v_riches))] [(h0, .inr (2, [oh0_0, .int v_date, oh0_2, oh0_3, .ref h0_riches, oh0_5])), (h0_riches, .inl (cy 2, 6, .inl v_riches))] r := by
  unfold f2_richesAt at hM
  refine ct_oi (cc := cX2_richesAt) (maxL := 4) (ty := .int) (by decide +kernel) rfl (Nat.le_of_ble_eq_true rfl) (lv0 := [(0, .ref h0), (1, .int p1), (2, .int p2), (3, .int p3)]) rfl ?_
  intro p e s m args below meth c A Q ls hx hb hts hown hml hK hP hD hS hA hret hl
  have hown : s.vm.findClass RX2 = some m.cls := hown
  have k15 := hts (.fieldLink RX2 15 "CaveYears$Folk" "riches" "[I") (List.mem_of_getElem? (i := 1) rfl)
  have iX2 := (fun w h => (List.mem_cons_of_mem _ (List.mem_append_right _ h)) : ∀ w ∈ wsX20, w ∈ wsX2_richesAt)
  have k21 := hts (.fieldLink RX2 21 "CaveYears$Folk" "date" "I") (List.mem_of_getElem? (i := 2) rfl)
  refine lv_iload_n hx hb dX2_richesAt_0 rfl (lv_at hl 1 rfl) ?_
  obtain ⟨r1, hc1, hM⟩ := ob1_some hM
  refine cl_si (As := [.int p1]) (rest := []) (wr := [(h0, .inr (2, [oh0_0, .int v_date, oh0_2, oh0_3, .ref h0_riches, oh0_5])), (h0_riches, .inl (cy 2, 6, .inl v_riches))]) (ws2 := [(h0, .inr (2, [oh0_0, .int v_date, oh0_2, oh0_3, .ref h0_riches, oh0_5])), (h0_riches, .inl (cy 2, 6, .inl v_riches))]) (isC := []) (isR := [0, 1]) (pm := [0, 1]) hx hb hml hown hts (c2_isPlace l D cy N p1 r1 hc1) (va_cwS 1 hts gX2_richesAt_X2_isPlace rfl rfl rfl (by decide +kernel) ⟨Nat.le_of_ble_eq_true rfl, Nat.le_of_ble_eq_true rfl⟩) hK hP hD hS hA rfl rfl rfl (by decide) rfl rfl rfl hl.1 (Nat.le_of_ble_eq_true rfl) dX2_richesAt_1 ⟨Nat.zero_le _, Nat.zero_le _⟩ rfl rfl (fun H locs hP hD hS => ?_)
  refine lv_if_eq (tgt := 32) hx hb dX2_richesAt_4 (by decide) (fun c4 => ?_) (fun c4 => ?_)
  · have hM := g_pos c4 hM
    refine lv_iconst (v := 0) hx hb dX2_richesAt_32 (by decide) ?_
    obtain rfl := si1 hM
    exact hret _ _ _ _ _ dX2_richesAt_33 rfl rfl hP hD hS
  · have hM := g_neg c4 hM
    refine lv_aload_n hx hb dX2_richesAt_7 rfl (lv_at hl 0 rfl) ?_
    refine va_get (D := D) (ci := 2) (v := .ref h0_riches) (C := RX2) (T := TX2) (N := 6) hx hb hts iX2 hown hK hP 0 rfl rfl 4 (by decide) k15 (fun _ h9 => h9) rfl dX2_richesAt_8 ?_
    refine lv_iload_n hx hb dX2_richesAt_11 rfl (lv_at hl 1 rfl) ?_
    obtain ⟨h12, hM⟩ := gi_some hM
    refine va_iald hx hb hK hP 1 2 rfl rfl h12 dX2_richesAt_12 ?_
    refine lv_iload_n hx hb dX2_richesAt_13 rfl (lv_at hl 3 rfl) ?_
    refine lv_iload_n hx hb dX2_richesAt_14 rfl (lv_at hl 2 rfl) ?_
    refine lv_bipush (v := 60) hx hb dX2_richesAt_15 (by decide) ?_
    refine lv_idiv hx hb dX2_richesAt_17 (by decide) ?_
    refine lv_aload_n hx hb dX2_richesAt_18 rfl (lv_at hl 0 rfl) ?_
    refine va_get (D := D) (ci := 2) (v := .int v_date) (C := RX2) (T := TX2) (N := 6) hx hb hts iX2 hown hK hP 0 rfl rfl 1 (by decide) k21 (fun _ h9 => h9) rfl dX2_richesAt_19 ?_
    refine lv_bipush (v := 60) hx hb dX2_richesAt_22 (by decide) ?_
    refine lv_idiv hx hb dX2_richesAt_24 (by decide) ?_
    refine lv_isub hx hb dX2_richesAt_25 ?_
    obtain ⟨r26, hc26, hM⟩ := ob1_some hM
    refine cl_si (As := [.int (v_riches p1.toNatClampNeg), .int p3, .int ((p2 / (60 : Int32)) - (v_date / (60 : Int32)))]) (rest := []) (wr := [(h0, .inr (2, [oh0_0, .int v_date, oh0_2, oh0_3, .ref h0_riches, oh0_5])), (h0_riches, .inl (cy 2, 6, .inl v_riches))]) (ws2 := [(h0, .inr (2, [oh0_0, .int v_date, oh0_2, oh0_3, .ref h0_riches, oh0_5])), (h0_riches, .inl (cy 2, 6, .inl v_riches))]) (isC := []) (isR := [0, 1]) (pm := [0, 1]) hx hb hml hown hts (c2_grown l D cy N (v_riches p1.toNatClampNeg) p3 ((p2 / (60 : Int32)) - (v_date / (60 : Int32))) r26 hc26) (va_cwS 3 hts gX2_richesAt_X2_grown rfl rfl rfl (by decide +kernel) ⟨Nat.le_of_ble_eq_true rfl, Nat.le_of_ble_eq_true rfl⟩) hK hP hD hS hA rfl rfl rfl (by decide) rfl rfl rfl hl.1 (Nat.le_of_ble_eq_true rfl) dX2_richesAt_26 ⟨Nat.zero_le _, Nat.zero_le _⟩ rfl rfl (fun H locs hP hD hS => ?_)
    refine lv_goto (tgt := 33) hx hb dX2_richesAt_29 (by decide) ?_
    obtain rfl := si1 hM
    exact hret _ _ _ _ _ dX2_richesAt_33 rfl rfl hP hD hS

-- ===== X2_letPass letPass (ILCaveYears$Cave;)V =====
abbrev r2_letPass : Room := { frames := 3, cells := 0, slots := 0, locals := 74 }
def f2_letPass_L10 (N : Nat) (p1 : Int32) (v_date : Int32) (w2_persons : Int32) (w2_interest : Int32) : Nat → Int32 → (Nat → Int32) → (Nat → Int32) → (Nat → Int32) → Option ((Nat → Int32) × (Nat → Int32) × (Nat → Int32))
  | 0, _, _, _, _ => none
  | n + 1, x4_10, v_age_10, v_riches_10, v_out_10 => if w2_persons ≤ x4_10 then (some (v_age_10, v_riches_10, v_out_10)) else (if (6 : Int32) ≤ x4_10 then (some (v_age_10, v_riches_10, v_out_10)) else (ob1 (f2_ageAt N x4_10 (v_date + p1) v_date v_age_10 v_out_10) fun r36 => gi x4_10 6 (ob1 (f2_richesAt N x4_10 (v_date + p1) w2_interest v_date v_riches_10) fun r54 => gi x4_10 6 (gi x4_10 6 (if (v_date + p1) < (v_out_10 x4_10.toNatClampNeg) then ((f2_letPass_L10 N p1 v_date w2_persons w2_interest n) (x4_10 + (1 : Int32)) (upd v_age_10 x4_10.toNatClampNeg r36) (upd v_riches_10 x4_10.toNatClampNeg r54) v_out_10) else (gi x4_10 6 ((f2_letPass_L10 N p1 v_date w2_persons w2_interest n) (x4_10 + (1 : Int32)) (upd v_age_10 x4_10.toNatClampNeg r36) (upd v_riches_10 x4_10.toNatClampNeg r54) (upd v_out_10 x4_10.toNatClampNeg (-1 : Int32)))))))))
def f2_letPass (N : Nat) (p1 : Int32) (v_date : Int32) (v_age : Nat → Int32) (v_riches : Nat → Int32) (v_out : Nat → Int32) (w2_persons : Int32) (w2_interest : Int32) : Option (Int32 × (Nat → Int32) × (Nat → Int32) × (Nat → Int32)) :=
  ob3 (f2_letPass_L10 N p1 v_date w2_persons w2_interest N (0 : Int32) v_age v_riches v_out) fun v_age_e10 v_riches_e10 v_out_e10 => some ((v_date + p1), v_age_e10, v_riches_e10, v_out_e10)
set_option maxHeartbeats 4000000 in
set_option maxRecDepth 100000 in
theorem c2_letPass (l : Launch) (D : va_G) (cy : Nat → ClassId) (N : Nat) (h0 h0_age h0_riches h0_out g2 : Nat) (oh0_0 oh0_2 og2_0 og2_1 og2_2 og2_5 og2_6 og2_7 og2_8 og2_9 og2_10 og2_11 og2_12 : Value) (p1 : Int32) (v_date : Int32) (v_age : Nat → Int32) (v_riches : Nat → Int32) (v_out : Nat → Int32) (w2_persons : Int32) (w2_interest : Int32) (nv_date : Int32) (nv_age : Nat → Int32) (nv_riches : Nat → Int32) (nv_out : Nat → Int32) (hM : f2_letPass N p1 v_date v_age v_riches v_out w2_persons w2_interest = some (nv_date, nv_age, nv_riches, nv_out)) (sz : Nat) : CTv l yX2_letPass wsX2_letPass r2_letPass [.ref h0, .int p1, .ref g2] D cy sz [(h0, .inr (2, [oh0_0, .int v_date, oh0_2, .ref h0_age, .ref h0_riches, .ref h0_out])), (h0_age, .inl (cy 2, 6, .inl v_age)), (h0_riches, .inl (cy 2, 6, .inl v_riches)), (h0_out, .inl (cy 2, 6, .inl v_out)), (g2, .inr (0, [og2_0, og2_1, og2_2, .int w2_persons, .int w2_interest, og2_5, og2_6, og2_7, og2_8, og2_9, og2_10, og2_11, og2_12]))] [(h0, .inr (2, [oh0_0, .int nv_date, oh0_2, .ref h0_age, .ref h0_riches, .ref h0_out])), (h0_age, .inl (cy 2, 6, .inl nv_age)), (h0_riches, .inl (cy 2, 6, .inl nv_riches)), (h0_out, .inl (cy 2, 6, .inl nv_out)), (g2, .inr (0, [og2_0, og2_1, og2_2, .int w2_persons, .int w2_interest, og2_5, og2_6, og2_7, og2_8, og2_9, og2_10, og2_11, og2_12]))] := by
  unfold f2_letPass at hM
  refine ct_ov (cc := cX2_letPass) (maxL := 5)  (by decide +kernel) rfl (Nat.le_of_ble_eq_true rfl) (lv0 := [(0, .ref h0), (1, .int p1), (2, .ref g2)]) rfl ?_
  intro p e s m args below meth c A Q ls hx hb hts hown hml hK hP hD hS hA hret hl
  have hown : s.vm.findClass RX2 = some m.cls := hown
  have k21 := hts (.fieldLink RX2 21 "CaveYears$Folk" "date" "I") (List.mem_of_getElem? (i := 1) rfl)
  have iX2 := (fun w h => (List.mem_cons_of_mem _ (List.mem_append_left _ (List.mem_append_right _ h))) : ∀ w ∈ wsX20, w ∈ wsX2_letPass)
  have k50 := hts (.fieldLink RX2 50 "CaveYears$Cave" "persons" "I") (List.mem_of_getElem? (i := 2) rfl)
  have iX0 := (fun w h => (List.mem_cons_of_mem _ (List.mem_append_right _ h)) : ∀ w ∈ wsX00, w ∈ wsX2_letPass)
  have k9 := hts (.fieldLink RX2 9 "CaveYears$Folk" "age" "[I") (List.mem_of_getElem? (i := 3) rfl)
  have k15 := hts (.fieldLink RX2 15 "CaveYears$Folk" "riches" "[I") (List.mem_of_getElem? (i := 4) rfl)
  have k56 := hts (.fieldLink RX2 56 "CaveYears$Cave" "interest" "I") (List.mem_of_getElem? (i := 5) rfl)
  have k18 := hts (.fieldLink RX2 18 "CaveYears$Folk" "out" "[I") (List.mem_of_getElem? (i := 6) rfl)
  refine lv_aload_n hx hb dX2_letPass_0 rfl (lv_at hl 0 rfl) ?_
  refine va_get (D := D) (ci := 2) (v := .int v_date) (C := RX2) (T := TX2) (N := 6) hx hb hts iX2 hown hK hP 0 rfl rfl 1 (by decide) k21 (fun _ h9 => h9) rfl dX2_letPass_1 ?_
  refine lv_iload_n hx hb dX2_letPass_4 rfl (lv_at hl 1 rfl) ?_
  refine lv_iadd hx hb dX2_letPass_5 ?_
  refine lv_istore_n (lv' := [(3, .int (v_date + p1)), (0, .ref h0), (1, .int p1), (2, .ref g2)]) hx hb dX2_letPass_6 rfl hl (by decide) rfl (fun ls hl => ?_)
  refine lv_iconst (v := 0) hx hb dX2_letPass_7 (by decide) ?_
  refine lv_istore (lv' := [(4, .int (0 : Int32)), (3, .int (v_date + p1)), (0, .ref h0), (1, .int p1), (2, .ref g2)]) hx hb dX2_letPass_8 hl (by decide) rfl (fun ls hl => ?_)
  have L10 : ∀ (n : Nat) (x4_10 : Int32) (v_age_10 : Nat → Int32) (v_riches_10 : Nat → Int32) (v_out_10 : Nat → Int32) (v_age_e10 : Nat → Int32) (v_riches_e10 : Nat → Int32) (v_out_e10 : Nat → Int32) (H : Heap) (locs : List Loc) (ls : Array Slot), f2_letPass_L10 N p1 v_date w2_persons w2_interest n x4_10 v_age_10 v_riches_10 v_out_10 = some (v_age_e10, v_riches_e10, v_out_e10) → va_P D vwCl [(h0, .inr (2, [oh0_0, .int v_date, oh0_2, .ref h0_age, .ref h0_riches, .ref h0_out])), (h0_age, .inl (cy 2, 6, .inl v_age_10)), (h0_riches, .inl (cy 2, 6, .inl v_riches_10)), (h0_out, .inl (cy 2, 6, .inl v_out_10)), (g2, .inr (0, [og2_0, og2_1, og2_2, .int w2_persons, .int w2_interest, og2_5, og2_6, og2_7, og2_8, og2_9, og2_10, og2_11, og2_12]))] H → va_D A [(h0, .inr (2, [oh0_0, .int v_date, oh0_2, .ref h0_age, .ref h0_riches, .ref h0_out])), (h0_age, .inl (cy 2, 6, .inl v_age_10)), (h0_riches, .inl (cy 2, 6, .inl v_riches_10)), (h0_out, .inl (cy 2, 6, .inl v_out_10)), (g2, .inr (0, [og2_0, og2_1, og2_2, .int w2_persons, .int w2_interest, og2_5, og2_6, og2_7, og2_8, og2_9, og2_10, og2_11, og2_12]))] → va_S A s.heap H locs → lv_has ls 5 [(0, .ref h0), (2, .ref g2), (3, .int (v_date + p1)), (4, .int x4_10)] → (∀ (H : Heap) (locs : List Loc) (ls : Array Slot), va_P D vwCl [(h0, .inr (2, [oh0_0, .int v_date, oh0_2, .ref h0_age, .ref h0_riches, .ref h0_out])), (h0_age, .inl (cy 2, 6, .inl v_age_e10)), (h0_riches, .inl (cy 2, 6, .inl v_riches_e10)), (h0_out, .inl (cy 2, 6, .inl v_out_e10)), (g2, .inr (0, [og2_0, og2_1, og2_2, .int w2_persons, .int w2_interest, og2_5, og2_6, og2_7, og2_8, og2_9, og2_10, og2_11, og2_12]))] H → va_D A [(h0, .inr (2, [oh0_0, .int v_date, oh0_2, .ref h0_age, .ref h0_riches, .ref h0_out])), (h0_age, .inl (cy 2, 6, .inl v_age_e10)), (h0_riches, .inl (cy 2, 6, .inl v_riches_e10)), (h0_out, .inl (cy 2, 6, .inl v_out_e10)), (g2, .inr (0, [og2_0, og2_1, og2_2, .int w2_persons, .int w2_interest, og2_5, og2_6, og2_7, og2_8, og2_9, og2_10, og2_11, og2_12]))] → va_S A s.heap H locs → lv_has ls 5 [(0, .ref h0), (3, .int (v_date + p1))] → W p l e r2_letPass s m args below meth c H locs 0 0 Q (F0 m 83 ls [])) → W p l e r2_letPass s m args below meth c H locs 0 0 Q (F0 m 10 ls []) := by
    intro n
    induction n with
    | zero =>
      intro x4_10 v_age_10 v_riches_10 v_out_10 v_age_e10 v_riches_e10 v_out_e10 H locs ls hM
      exact absurd hM (by simp [f2_letPass_L10])
    | succ n ih =>
      intro x4_10 v_age_10 v_riches_10 v_out_10 v_age_e10 v_riches_e10 v_out_e10 H locs ls hM hP hD hS hl K
      rw [f2_letPass_L10] at hM
      refine lv_iload hx hb dX2_letPass_10 (lv_at hl 3 rfl) ?_
      refine lv_aload_n hx hb dX2_letPass_12 rfl (lv_at hl 1 rfl) ?_
      refine va_get (D := D) (ci := 0) (v := .int w2_persons) (C := RX0) (T := TX0) (N := 13) hx hb hts iX0 hown hK hP 4 rfl rfl 3 (by decide) k50 (fun _ h9 => h9) rfl dX2_letPass_13 ?_
      refine lv_icmp_ge (tgt := 83) hx hb dX2_letPass_16 (by decide) (fun c16 => ?_) (fun c16 => ?_)
      · have hM := g_pos c16 hM
        obtain ⟨rfl, rfl, rfl⟩ := si3 hM
        exact K _ _ _ hP hD hS (lv_sub hl [0, 2] rfl)
      · have hM := g_neg c16 hM
        refine lv_iload hx hb dX2_letPass_19 (lv_at hl 3 rfl) ?_
        refine lv_bipush (v := 6) hx hb dX2_letPass_21 (by decide) ?_
        refine lv_icmp_ge (tgt := 83) hx hb dX2_letPass_23 (by decide) (fun c23 => ?_) (fun c23 => ?_)
        · have hM := g_pos c23 hM
          obtain ⟨rfl, rfl, rfl⟩ := si3 hM
          exact K _ _ _ hP hD hS (lv_sub hl [0, 2] rfl)
        · have hM := g_neg c23 hM
          refine lv_aload_n hx hb dX2_letPass_26 rfl (lv_at hl 0 rfl) ?_
          refine va_get (D := D) (ci := 2) (v := .ref h0_age) (C := RX2) (T := TX2) (N := 6) hx hb hts iX2 hown hK hP 0 rfl rfl 3 (by decide) k9 (fun _ h9 => h9) rfl dX2_letPass_27 ?_
          refine lv_iload hx hb dX2_letPass_30 (lv_at hl 3 rfl) ?_
          refine lv_aload_n hx hb dX2_letPass_32 rfl (lv_at hl 0 rfl) ?_
          refine lv_iload hx hb dX2_letPass_33 (lv_at hl 3 rfl) ?_
          refine lv_iload_n hx hb dX2_letPass_35 rfl (lv_at hl 2 rfl) ?_
          obtain ⟨r36, hc36, hM⟩ := ob1_some hM
          refine cl_vi (As := [.int x4_10, .int (v_date + p1)]) (rest := [.int x4_10, .ref h0_age]) (ci := 2) (q0 := 0) (wr := [(h0_riches, .inl (cy 2, 6, .inl v_riches_10)), (g2, .inr (0, [og2_0, og2_1, og2_2, .int w2_persons, .int w2_interest, og2_5, og2_6, og2_7, og2_8, og2_9, og2_10, og2_11, og2_12]))]) (ws2 := [(h0, .inr (2, [oh0_0, .int v_date, oh0_2, .ref h0_age, .ref h0_riches, .ref h0_out])), (h0_age, .inl (cy 2, 6, .inl v_age_10)), (h0_riches, .inl (cy 2, 6, .inl v_riches_10)), (h0_out, .inl (cy 2, 6, .inl v_out_10)), (g2, .inr (0, [og2_0, og2_1, og2_2, .int w2_persons, .int w2_interest, og2_5, og2_6, og2_7, og2_8, og2_9, og2_10, og2_11, og2_12]))]) (isC := [0, 1, 3]) (isR := [2, 4]) (pm := [2, 3, 0, 4, 1]) hx hb hml hown hts (c2_ageAt l D cy N h0 h0_age h0_out oh0_0 oh0_2 (.ref h0_riches) x4_10 (v_date + p1) v_date v_age_10 v_out_10 r36 hc36) (cwV 2 hts gX2_letPass_X2_ageAt rfl rfl rfl (by decide +kernel) ⟨Nat.le_of_ble_eq_true rfl, Nat.le_of_ble_eq_true rfl⟩) hK hP hD hS hA rfl rfl rfl rfl rfl (by decide) rfl rfl rfl hl.1 (Nat.le_of_ble_eq_true rfl) dX2_letPass_36 ⟨Nat.zero_le _, Nat.zero_le _⟩ rfl rfl (fun H locs hP hD hS => ?_)
          obtain ⟨h39, hM⟩ := gi_some hM
          refine va_iast hx hb hK hP hD hS 1 2 rfl rfl h39 dX2_letPass_39 (fun H locs hP hD hS => ?_)
          have hP : va_P D vwCl [(h0, .inr (2, [oh0_0, .int v_date, oh0_2, .ref h0_age, .ref h0_riches, .ref h0_out])), (h0_age, .inl (cy 2, 6, .inl (upd v_age_10 x4_10.toNatClampNeg r36))), (h0_riches, .inl (cy 2, 6, .inl v_riches_10)), (h0_out, .inl (cy 2, 6, .inl v_out_10)), (g2, .inr (0, [og2_0, og2_1, og2_2, .int w2_persons, .int w2_interest, og2_5, og2_6, og2_7, og2_8, og2_9, og2_10, og2_11, og2_12]))] H := hP
          have hD : va_D A [(h0, .inr (2, [oh0_0, .int v_date, oh0_2, .ref h0_age, .ref h0_riches, .ref h0_out])), (h0_age, .inl (cy 2, 6, .inl (upd v_age_10 x4_10.toNatClampNeg r36))), (h0_riches, .inl (cy 2, 6, .inl v_riches_10)), (h0_out, .inl (cy 2, 6, .inl v_out_10)), (g2, .inr (0, [og2_0, og2_1, og2_2, .int w2_persons, .int w2_interest, og2_5, og2_6, og2_7, og2_8, og2_9, og2_10, og2_11, og2_12]))] := hD
          refine lv_aload_n hx hb dX2_letPass_40 rfl (lv_at hl 0 rfl) ?_
          refine va_get (D := D) (ci := 2) (v := .ref h0_riches) (C := RX2) (T := TX2) (N := 6) hx hb hts iX2 hown hK hP 0 rfl rfl 4 (by decide) k15 (fun _ h9 => h9) rfl dX2_letPass_41 ?_
          refine lv_iload hx hb dX2_letPass_44 (lv_at hl 3 rfl) ?_
          refine lv_aload_n hx hb dX2_letPass_46 rfl (lv_at hl 0 rfl) ?_
          refine lv_iload hx hb dX2_letPass_47 (lv_at hl 3 rfl) ?_
          refine lv_iload_n hx hb dX2_letPass_49 rfl (lv_at hl 2 rfl) ?_
          refine lv_aload_n hx hb dX2_letPass_50 rfl (lv_at hl 1 rfl) ?_
          refine va_get (D := D) (ci := 0) (v := .int w2_interest) (C := RX0) (T := TX0) (N := 13) hx hb hts iX0 hown hK hP 4 rfl rfl 4 (by decide) k56 (fun _ h9 => h9) rfl dX2_letPass_51 ?_
          obtain ⟨r54, hc54, hM⟩ := ob1_some hM
          refine cl_vi (As := [.int x4_10, .int (v_date + p1), .int w2_interest]) (rest := [.int x4_10, .ref h0_riches]) (ci := 2) (q0 := 0) (wr := [(h0_age, .inl (cy 2, 6, .inl (upd v_age_10 x4_10.toNatClampNeg r36))), (h0_out, .inl (cy 2, 6, .inl v_out_10)), (g2, .inr (0, [og2_0, og2_1, og2_2, .int w2_persons, .int w2_interest, og2_5, og2_6, og2_7, og2_8, og2_9, og2_10, og2_11, og2_12]))]) (ws2 := [(h0, .inr (2, [oh0_0, .int v_date, oh0_2, .ref h0_age, .ref h0_riches, .ref h0_out])), (h0_age, .inl (cy 2, 6, .inl (upd v_age_10 x4_10.toNatClampNeg r36))), (h0_riches, .inl (cy 2, 6, .inl v_riches_10)), (h0_out, .inl (cy 2, 6, .inl v_out_10)), (g2, .inr (0, [og2_0, og2_1, og2_2, .int w2_persons, .int w2_interest, og2_5, og2_6, og2_7, og2_8, og2_9, og2_10, og2_11, og2_12]))]) (isC := [0, 2]) (isR := [1, 3, 4]) (pm := [3, 0, 4, 1, 2]) hx hb hml hown hts (c2_richesAt l D cy N h0 h0_riches oh0_0 oh0_2 (.ref h0_age) (.ref h0_out) x4_10 (v_date + p1) w2_interest v_date v_riches_10 r54 hc54) (cwV 3 hts gX2_letPass_X2_richesAt rfl rfl rfl (by decide +kernel) ⟨Nat.le_of_ble_eq_true rfl, Nat.le_of_ble_eq_true rfl⟩) hK hP hD hS hA rfl rfl rfl rfl rfl (by decide) rfl rfl rfl hl.1 (Nat.le_of_ble_eq_true rfl) dX2_letPass_54 ⟨Nat.zero_le _, Nat.zero_le _⟩ rfl rfl (fun H locs hP hD hS => ?_)
          obtain ⟨h57, hM⟩ := gi_some hM
          refine va_iast hx hb hK hP hD hS 2 2 rfl rfl h57 dX2_letPass_57 (fun H locs hP hD hS => ?_)
          have hP : va_P D vwCl [(h0, .inr (2, [oh0_0, .int v_date, oh0_2, .ref h0_age, .ref h0_riches, .ref h0_out])), (h0_age, .inl (cy 2, 6, .inl (upd v_age_10 x4_10.toNatClampNeg r36))), (h0_riches, .inl (cy 2, 6, .inl (upd v_riches_10 x4_10.toNatClampNeg r54))), (h0_out, .inl (cy 2, 6, .inl v_out_10)), (g2, .inr (0, [og2_0, og2_1, og2_2, .int w2_persons, .int w2_interest, og2_5, og2_6, og2_7, og2_8, og2_9, og2_10, og2_11, og2_12]))] H := hP
          have hD : va_D A [(h0, .inr (2, [oh0_0, .int v_date, oh0_2, .ref h0_age, .ref h0_riches, .ref h0_out])), (h0_age, .inl (cy 2, 6, .inl (upd v_age_10 x4_10.toNatClampNeg r36))), (h0_riches, .inl (cy 2, 6, .inl (upd v_riches_10 x4_10.toNatClampNeg r54))), (h0_out, .inl (cy 2, 6, .inl v_out_10)), (g2, .inr (0, [og2_0, og2_1, og2_2, .int w2_persons, .int w2_interest, og2_5, og2_6, og2_7, og2_8, og2_9, og2_10, og2_11, og2_12]))] := hD
          refine lv_aload_n hx hb dX2_letPass_58 rfl (lv_at hl 0 rfl) ?_
          refine va_get (D := D) (ci := 2) (v := .ref h0_out) (C := RX2) (T := TX2) (N := 6) hx hb hts iX2 hown hK hP 0 rfl rfl 5 (by decide) k18 (fun _ h9 => h9) rfl dX2_letPass_59 ?_
          refine lv_iload hx hb dX2_letPass_62 (lv_at hl 3 rfl) ?_
          obtain ⟨h64, hM⟩ := gi_some hM
          refine va_iald hx hb hK hP 3 2 rfl rfl h64 dX2_letPass_64 ?_
          refine lv_iload_n hx hb dX2_letPass_65 rfl (lv_at hl 2 rfl) ?_
          refine lv_icmp_gt (tgt := 77) hx hb dX2_letPass_66 (by decide) (fun c66 => ?_) (fun c66 => ?_)
          · have hM := g_pos c66 hM
            refine lv_iinc (v := x4_10 + (1 : Int32)) (lv' := [(4, .int (x4_10 + (1 : Int32))), (0, .ref h0), (2, .ref g2), (3, .int (v_date + p1))]) hx hb dX2_letPass_77 hl (k := 3) rfl rfl (by decide) rfl (fun ls hl => ?_)
            refine lv_goto (tgt := 10) hx hb dX2_letPass_80 (by decide) ?_
            exact ih (x4_10 + (1 : Int32)) (upd v_age_10 x4_10.toNatClampNeg r36) (upd v_riches_10 x4_10.toNatClampNeg r54) v_out_10 v_age_e10 v_riches_e10 v_out_e10 _ _ _ hM hP hD hS (lv_sub hl [1, 2, 3, 0] rfl) K
          · have hM := g_neg c66 hM
            refine lv_aload_n hx hb dX2_letPass_69 rfl (lv_at hl 0 rfl) ?_
            refine va_get (D := D) (ci := 2) (v := .ref h0_out) (C := RX2) (T := TX2) (N := 6) hx hb hts iX2 hown hK hP 0 rfl rfl 5 (by decide) k18 (fun _ h9 => h9) rfl dX2_letPass_70 ?_
            refine lv_iload hx hb dX2_letPass_73 (lv_at hl 3 rfl) ?_
            refine lv_iconst (v := -1) hx hb dX2_letPass_75 (by decide) ?_
            obtain ⟨h76, hM⟩ := gi_some hM
            refine va_iast hx hb hK hP hD hS 3 2 rfl rfl h76 dX2_letPass_76 (fun H locs hP hD hS => ?_)
            have hP : va_P D vwCl [(h0, .inr (2, [oh0_0, .int v_date, oh0_2, .ref h0_age, .ref h0_riches, .ref h0_out])), (h0_age, .inl (cy 2, 6, .inl (upd v_age_10 x4_10.toNatClampNeg r36))), (h0_riches, .inl (cy 2, 6, .inl (upd v_riches_10 x4_10.toNatClampNeg r54))), (h0_out, .inl (cy 2, 6, .inl (upd v_out_10 x4_10.toNatClampNeg (-1 : Int32)))), (g2, .inr (0, [og2_0, og2_1, og2_2, .int w2_persons, .int w2_interest, og2_5, og2_6, og2_7, og2_8, og2_9, og2_10, og2_11, og2_12]))] H := hP
            have hD : va_D A [(h0, .inr (2, [oh0_0, .int v_date, oh0_2, .ref h0_age, .ref h0_riches, .ref h0_out])), (h0_age, .inl (cy 2, 6, .inl (upd v_age_10 x4_10.toNatClampNeg r36))), (h0_riches, .inl (cy 2, 6, .inl (upd v_riches_10 x4_10.toNatClampNeg r54))), (h0_out, .inl (cy 2, 6, .inl (upd v_out_10 x4_10.toNatClampNeg (-1 : Int32)))), (g2, .inr (0, [og2_0, og2_1, og2_2, .int w2_persons, .int w2_interest, og2_5, og2_6, og2_7, og2_8, og2_9, og2_10, og2_11, og2_12]))] := hD
            refine lv_iinc (v := x4_10 + (1 : Int32)) (lv' := [(4, .int (x4_10 + (1 : Int32))), (0, .ref h0), (2, .ref g2), (3, .int (v_date + p1))]) hx hb dX2_letPass_77 hl (k := 3) rfl rfl (by decide) rfl (fun ls hl => ?_)
            refine lv_goto (tgt := 10) hx hb dX2_letPass_80 (by decide) ?_
            exact ih (x4_10 + (1 : Int32)) (upd v_age_10 x4_10.toNatClampNeg r36) (upd v_riches_10 x4_10.toNatClampNeg r54) (upd v_out_10 x4_10.toNatClampNeg (-1 : Int32)) v_age_e10 v_riches_e10 v_out_e10 _ _ _ hM hP hD hS (lv_sub hl [1, 2, 3, 0] rfl) K
  obtain ⟨v_age_e10, v_riches_e10, v_out_e10, hL10, hM⟩ := ob3_some hM
  refine L10 N (0 : Int32) v_age v_riches v_out v_age_e10 v_riches_e10 v_out_e10 _ _ _ hL10 hP hD hS (lv_sub hl [2, 4, 1, 0] rfl) ?_
  intro H locs ls hP hD hS hl
  refine lv_aload_n hx hb dX2_letPass_83 rfl (lv_at hl 0 rfl) ?_
  refine lv_iload_n hx hb dX2_letPass_84 rfl (lv_at hl 1 rfl) ?_
  refine va_put (D := D) (ci := 2) (v := .int (v_date + p1)) (ty := .int) (C := RX2) (T := TX2) (N := 6) hx hb hts iX2 tyX2 tyX2_ok nmX2 hown hK hP hD hS 0 rfl rfl 1 (by decide) k21 (fun _ h9 => h9) rfl (by decide +kernel) rfl rfl (Nat.le_of_ble_eq_true rfl) dX2_letPass_85 (fun H locs hP hD hS => ?_)
  have hP : va_P D vwCl [(h0, .inr (2, [oh0_0, .int (v_date + p1), oh0_2, .ref h0_age, .ref h0_riches, .ref h0_out])), (h0_age, .inl (cy 2, 6, .inl v_age_e10)), (h0_riches, .inl (cy 2, 6, .inl v_riches_e10)), (h0_out, .inl (cy 2, 6, .inl v_out_e10)), (g2, .inr (0, [og2_0, og2_1, og2_2, .int w2_persons, .int w2_interest, og2_5, og2_6, og2_7, og2_8, og2_9, og2_10, og2_11, og2_12]))] H := hP
  have hD : va_D A [(h0, .inr (2, [oh0_0, .int (v_date + p1), oh0_2, .ref h0_age, .ref h0_riches, .ref h0_out])), (h0_age, .inl (cy 2, 6, .inl v_age_e10)), (h0_riches, .inl (cy 2, 6, .inl v_riches_e10)), (h0_out, .inl (cy 2, 6, .inl v_out_e10)), (g2, .inr (0, [og2_0, og2_1, og2_2, .int w2_persons, .int w2_interest, og2_5, og2_6, og2_7, og2_8, og2_9, og2_10, og2_11, og2_12]))] := hD
  obtain ⟨rfl, rfl, rfl, rfl⟩ := si4 hM
  exact hret _ _ _ _ dX2_letPass_88 hP hD hS

-- ===== X2_nextDraw nextDraw (I)I =====
abbrev r2_nextDraw : Room := { frames := 0, cells := 0, slots := 0, locals := 0 }
def f2_nextDraw (N : Nat) (p1 : Int32) (v_drawSeed : Int32) : Option (Int32 × Int32) :=
  if p1 ≤ (0 : Int32) then (some ((0 : Int32), ((((v_drawSeed.toInt64) * (1103515245 : Int64)) + (12345 : Int64)) &&& (2147483647 : Int64)).toInt32)) else (gz p1 (some ((((((((v_drawSeed.toInt64) * (1103515245 : Int64)) + (12345 : Int64)) &&& (2147483647 : Int64)).toInt32) / (65536 : Int32)) - ((((((v_drawSeed.toInt64) * (1103515245 : Int64)) + (12345 : Int64)) &&& (2147483647 : Int64)).toInt32) / (65536 : Int32)) / p1 * p1), ((((v_drawSeed.toInt64) * (1103515245 : Int64)) + (12345 : Int64)) &&& (2147483647 : Int64)).toInt32)))
set_option maxHeartbeats 4000000 in
set_option maxRecDepth 100000 in
theorem c2_nextDraw (l : Launch) (D : va_G) (cy : Nat → ClassId) (N : Nat) (h0 : Nat) (oh0_0 oh0_1 oh0_3 oh0_4 oh0_5 : Value) (p1 : Int32) (v_drawSeed : Int32) (r : Int32) (nv_drawSeed : Int32) (hM : f2_nextDraw N p1 v_drawSeed = some (r, nv_drawSeed)) (sz : Nat) : CTi l yX2_nextDraw wsX2_nextDraw r2_nextDraw [.ref h0, .int p1] D cy sz [(h0, .inr (2, [oh0_0, oh0_1, .int v_drawSeed, oh0_3, oh0_4, oh0_5]))] [(h0, .inr (2, [oh0_0, oh0_1, .int nv_drawSeed, oh0_3, oh0_4, oh0_5]))] r := by
  unfold f2_nextDraw at hM
  refine ct_oi (cc := cX2_nextDraw) (maxL := 2) (ty := .int) (by decide +kernel) rfl (Nat.le_of_ble_eq_true rfl) (lv0 := [(0, .ref h0), (1, .int p1)]) rfl ?_
  intro p e s m args below meth c A Q ls hx hb hts hown hml hK hP hD hS hA hret hl
  have hown : s.vm.findClass RX2 = some m.cls := hown
  have k33 := hts (.fieldLink RX2 33 "CaveYears$Folk" "drawSeed" "I") (List.mem_of_getElem? (i := 1) rfl)
  have iX2 := (fun w h => (List.mem_cons_of_mem _ (List.mem_append_right _ h)) : ∀ w ∈ wsX20, w ∈ wsX2_nextDraw)
  have k86 := hts (.constantLong RX2 86 (1103515245)) (List.mem_of_getElem? (i := 2) rfl)
  have k88 := hts (.constantLong RX2 88 (12345)) (List.mem_of_getElem? (i := 3) rfl)
  have k90 := hts (.constantLong RX2 90 (2147483647)) (List.mem_of_getElem? (i := 4) rfl)
  have k92 := hts (.constant RX2 92 (65536)) (List.mem_of_getElem? (i := 5) rfl)
  refine lv_aload_n hx hb dX2_nextDraw_0 rfl (lv_at hl 0 rfl) ?_
  refine lv_aload_n hx hb dX2_nextDraw_1 rfl (lv_at hl 0 rfl) ?_
  refine va_get (D := D) (ci := 2) (v := .int v_drawSeed) (C := RX2) (T := TX2) (N := 6) hx hb hts iX2 hown hK hP 0 rfl rfl 2 (by decide) k33 (fun _ h9 => h9) rfl dX2_nextDraw_2 ?_
  refine lv_i2l (v := v_drawSeed.toInt64) hx hb dX2_nextDraw_5 rfl ?_
  refine lv_ldc2 (v := 1103515245) hx hb hown k86 dX2_nextDraw_6 ?_
  refine lv_lmul hx hb dX2_nextDraw_9 ?_
  refine lv_ldc2 (v := 12345) hx hb hown k88 dX2_nextDraw_10 ?_
  refine lv_ladd hx hb dX2_nextDraw_13 ?_
  refine lv_ldc2 (v := 2147483647) hx hb hown k90 dX2_nextDraw_14 ?_
  refine lv_land hx hb dX2_nextDraw_17 ?_
  refine lv_l2i (v := ((((v_drawSeed.toInt64) * (1103515245 : Int64)) + (12345 : Int64)) &&& (2147483647 : Int64)).toInt32) hx hb dX2_nextDraw_18 rfl ?_
  refine va_put (D := D) (ci := 2) (v := .int (((((v_drawSeed.toInt64) * (1103515245 : Int64)) + (12345 : Int64)) &&& (2147483647 : Int64)).toInt32)) (ty := .int) (C := RX2) (T := TX2) (N := 6) hx hb hts iX2 tyX2 tyX2_ok nmX2 hown hK hP hD hS 0 rfl rfl 2 (by decide) k33 (fun _ h9 => h9) rfl (by decide +kernel) rfl rfl (Nat.le_of_ble_eq_true rfl) dX2_nextDraw_19 (fun H locs hP hD hS => ?_)
  have hP : va_P D vwCl [(h0, .inr (2, [oh0_0, oh0_1, .int (((((v_drawSeed.toInt64) * (1103515245 : Int64)) + (12345 : Int64)) &&& (2147483647 : Int64)).toInt32), oh0_3, oh0_4, oh0_5]))] H := hP
  have hD : va_D A [(h0, .inr (2, [oh0_0, oh0_1, .int (((((v_drawSeed.toInt64) * (1103515245 : Int64)) + (12345 : Int64)) &&& (2147483647 : Int64)).toInt32), oh0_3, oh0_4, oh0_5]))] := hD
  refine lv_iload_n hx hb dX2_nextDraw_22 rfl (lv_at hl 1 rfl) ?_
  refine lv_if_le (tgt := 38) hx hb dX2_nextDraw_23 (by decide) (fun c23 => ?_) (fun c23 => ?_)
  · have hM := g_pos c23 hM
    refine lv_iconst (v := 0) hx hb dX2_nextDraw_38 (by decide) ?_
    obtain ⟨rfl, rfl⟩ := si2 hM
    exact hret _ _ _ _ _ dX2_nextDraw_39 rfl rfl hP hD hS
  · have hM := g_neg c23 hM
    refine lv_aload_n hx hb dX2_nextDraw_26 rfl (lv_at hl 0 rfl) ?_
    refine va_get (D := D) (ci := 2) (v := .int (((((v_drawSeed.toInt64) * (1103515245 : Int64)) + (12345 : Int64)) &&& (2147483647 : Int64)).toInt32)) (C := RX2) (T := TX2) (N := 6) hx hb hts iX2 hown hK hP 0 rfl rfl 2 (by decide) k33 (fun _ h9 => h9) rfl dX2_nextDraw_27 ?_
    refine lv_ldc (v := 65536) hx hb hown k92 dX2_nextDraw_30 ?_
    refine lv_idiv hx hb dX2_nextDraw_32 (by decide) ?_
    refine lv_iload_n hx hb dX2_nextDraw_33 rfl (lv_at hl 1 rfl) ?_
    obtain ⟨hz34, hM⟩ := gz_some hM
    refine lv_irem hx hb dX2_nextDraw_34 hz34 ?_
    refine lv_goto (tgt := 39) hx hb dX2_nextDraw_35 (by decide) ?_
    obtain ⟨rfl, rfl⟩ := si2 hM
    exact hret _ _ _ _ _ dX2_nextDraw_39 rfl rfl hP hD hS

-- ===== X2_driftOnce driftOnce (LCaveYears$Cave;)V =====
abbrev r2_driftOnce : Room := { frames := 4, cells := 0, slots := 0, locals := 98 }
def f2_driftOnce (N : Nat) (v_date : Int32) (v_drawSeed : Int32) (v_age : Nat → Int32) (v_riches : Nat → Int32) (v_out : Nat → Int32) (w1_parts : Int32) (w1_mouths : Int32) (w1_persons : Int32) (w1_interest : Int32) (w1_rate : Nat → Int32) : Option (Int32 × Int32 × (Nat → Int32) × (Nat → Int32) × (Nat → Int32)) :=
  ob2 (f2_nextDraw N w1_persons v_drawSeed) fun r5 v_drawSeed_5 => ob1 (f2_isUp N r5 v_out) fun r11 => if r11 = (0 : Int32) then (ob2 (f2_nextDraw N (60 : Int32) v_drawSeed_5) fun r63 v_drawSeed_63 => ob4 (f2_letPass N r63 v_date v_age v_riches v_out w1_persons w1_interest) fun v_date_67 v_age_67 v_riches_67 v_out_67 => some (v_date_67, v_drawSeed_63, v_age_67, v_riches_67, v_out_67)) else (ob2 (f2_nextDraw N w1_parts v_drawSeed_5) fun r22 v_drawSeed_22 => ob2 (f2_nextDraw N (9 : Int32) v_drawSeed_22) fun r29 v_drawSeed_29 => ob1 (f0_hasMouth N r22 w1_parts w1_mouths) fun r38 => if r38 = (0 : Int32) then (ob2 (f2_nextDraw N (60 : Int32) v_drawSeed_29) fun r63 v_drawSeed_63 => ob4 (f2_letPass N r63 v_date v_age v_riches v_out w1_persons w1_interest) fun v_date_67 v_age_67 v_riches_67 v_out_67 => some (v_date_67, v_drawSeed_63, v_age_67, v_riches_67, v_out_67)) else (ob1 (f0_rateOf N r22 w1_parts w1_rate) fun r52 => ob2 (f2_goIn N r5 (r29 + (1 : Int32)) ((r29 + (1 : Int32)) * r52) v_date v_age v_out) fun v_age_56 v_out_56 => ob2 (f2_nextDraw N (60 : Int32) v_drawSeed_29) fun r63 v_drawSeed_63 => ob4 (f2_letPass N r63 v_date v_age_56 v_riches v_out_56 w1_persons w1_interest) fun v_date_67 v_age_67 v_riches_67 v_out_67 => some (v_date_67, v_drawSeed_63, v_age_67, v_riches_67, v_out_67)))
set_option maxHeartbeats 4000000 in
set_option maxRecDepth 100000 in
theorem c2_driftOnce (l : Launch) (D : va_G) (cy : Nat → ClassId) (N : Nat) (h0 h0_age h0_riches h0_out g1 g1_rate : Nat) (oh0_0 og1_2 og1_5 og1_6 og1_8 og1_9 og1_10 og1_11 og1_12 : Value) (v_date : Int32) (v_drawSeed : Int32) (v_age : Nat → Int32) (v_riches : Nat → Int32) (v_out : Nat → Int32) (w1_parts : Int32) (w1_mouths : Int32) (w1_persons : Int32) (w1_interest : Int32) (w1_rate : Nat → Int32) (nv_date : Int32) (nv_drawSeed : Int32) (nv_age : Nat → Int32) (nv_riches : Nat → Int32) (nv_out : Nat → Int32) (hM : f2_driftOnce N v_date v_drawSeed v_age v_riches v_out w1_parts w1_mouths w1_persons w1_interest w1_rate = some (nv_date, nv_drawSeed, nv_age, nv_riches, nv_out)) (sz : Nat) : CTv l yX2_driftOnce wsX2_driftOnce r2_driftOnce [.ref h0, .ref g1] D cy sz [(h0, .inr (2, [oh0_0, .int v_date, .int v_drawSeed, .ref h0_age, .ref h0_riches, .ref h0_out])), (h0_age, .inl (cy 2, 6, .inl v_age)), (h0_riches, .inl (cy 2, 6, .inl v_riches)), (h0_out, .inl (cy 2, 6, .inl v_out)), (g1, .inr (0, [.int w1_parts, .int w1_mouths, og1_2, .int w1_persons, .int w1_interest, og1_5, og1_6, .ref g1_rate, og1_8, og1_9, og1_10, og1_11, og1_12])), (g1_rate, .inl (cy 2, 7, .inl w1_rate))] [(h0, .inr (2, [oh0_0, .int nv_date, .int nv_drawSeed, .ref h0_age, .ref h0_riches, .ref h0_out])), (h0_age, .inl (cy 2, 6, .inl nv_age)), (h0_riches, .inl (cy 2, 6, .inl nv_riches)), (h0_out, .inl (cy 2, 6, .inl nv_out)), (g1, .inr (0, [.int w1_parts, .int w1_mouths, og1_2, .int w1_persons, .int w1_interest, og1_5, og1_6, .ref g1_rate, og1_8, og1_9, og1_10, og1_11, og1_12])), (g1_rate, .inl (cy 2, 7, .inl w1_rate))] := by
  unfold f2_driftOnce at hM
  refine ct_ov (cc := cX2_driftOnce) (maxL := 5)  (by decide +kernel) rfl (Nat.le_of_ble_eq_true rfl) (lv0 := [(0, .ref h0), (1, .ref g1)]) rfl ?_
  intro p e s m args below meth c A Q ls hx hb hts hown hml hK hP hD hS hA hret hl
  have hown : s.vm.findClass RX2 = some m.cls := hown
  have k50 := hts (.fieldLink RX2 50 "CaveYears$Cave" "persons" "I") (List.mem_of_getElem? (i := 1) rfl)
  have iX0 := (fun w h => (List.mem_cons_of_mem _ (List.mem_append_left _ (List.mem_append_right _ h))) : ∀ w ∈ wsX00, w ∈ wsX2_driftOnce)
  have k69 := hts (.fieldLink RX2 69 "CaveYears$Cave" "parts" "I") (List.mem_of_getElem? (i := 2) rfl)
  refine lv_aload_n hx hb dX2_driftOnce_0 rfl (lv_at hl 0 rfl) ?_
  refine lv_aload_n hx hb dX2_driftOnce_1 rfl (lv_at hl 1 rfl) ?_
  refine va_get (D := D) (ci := 0) (v := .int w1_persons) (C := RX0) (T := TX0) (N := 13) hx hb hts iX0 hown hK hP 4 rfl rfl 3 (by decide) k50 (fun _ h9 => h9) rfl dX2_driftOnce_2 ?_
  obtain ⟨r5, v_drawSeed_5, hc5, hM⟩ := ob2_some hM
  refine cl_vi (As := [.int w1_persons]) (rest := []) (ci := 2) (q0 := 0) (wr := [(h0_age, .inl (cy 2, 6, .inl v_age)), (h0_riches, .inl (cy 2, 6, .inl v_riches)), (h0_out, .inl (cy 2, 6, .inl v_out)), (g1, .inr (0, [.int w1_parts, .int w1_mouths, og1_2, .int w1_persons, .int w1_interest, og1_5, og1_6, .ref g1_rate, og1_8, og1_9, og1_10, og1_11, og1_12])), (g1_rate, .inl (cy 2, 7, .inl w1_rate))]) (ws2 := [(h0, .inr (2, [oh0_0, .int v_date, .int v_drawSeed_5, .ref h0_age, .ref h0_riches, .ref h0_out])), (h0_age, .inl (cy 2, 6, .inl v_age)), (h0_riches, .inl (cy 2, 6, .inl v_riches)), (h0_out, .inl (cy 2, 6, .inl v_out)), (g1, .inr (0, [.int w1_parts, .int w1_mouths, og1_2, .int w1_persons, .int w1_interest, og1_5, og1_6, .ref g1_rate, og1_8, og1_9, og1_10, og1_11, og1_12])), (g1_rate, .inl (cy 2, 7, .inl w1_rate))]) (isC := [0]) (isR := [1, 2, 3, 4, 5]) (pm := [5, 0, 1, 2, 3, 4]) hx hb hml hown hts (c2_nextDraw l D cy N h0 oh0_0 (.int v_date) (.ref h0_age) (.ref h0_riches) (.ref h0_out) w1_persons v_drawSeed r5 v_drawSeed_5 hc5) (cwV 1 hts gX2_driftOnce_X2_nextDraw rfl rfl rfl (by decide +kernel) ⟨Nat.le_of_ble_eq_true rfl, Nat.le_of_ble_eq_true rfl⟩) hK hP hD hS hA rfl rfl rfl rfl rfl (by decide) rfl rfl rfl hl.1 (Nat.le_of_ble_eq_true rfl) dX2_driftOnce_5 ⟨Nat.zero_le _, Nat.zero_le _⟩ rfl rfl (fun H locs hP hD hS => ?_)
  refine lv_istore_n (lv' := [(2, .int r5), (0, .ref h0), (1, .ref g1)]) hx hb dX2_driftOnce_8 rfl hl (by decide) rfl (fun ls hl => ?_)
  refine lv_aload_n hx hb dX2_driftOnce_9 rfl (lv_at hl 1 rfl) ?_
  refine lv_iload_n hx hb dX2_driftOnce_10 rfl (lv_at hl 0 rfl) ?_
  obtain ⟨r11, hc11, hM⟩ := ob1_some hM
  refine cl_vi (As := [.int r5]) (rest := []) (ci := 2) (q0 := 0) (wr := [(h0_age, .inl (cy 2, 6, .inl v_age)), (h0_riches, .inl (cy 2, 6, .inl v_riches)), (g1, .inr (0, [.int w1_parts, .int w1_mouths, og1_2, .int w1_persons, .int w1_interest, og1_5, og1_6, .ref g1_rate, og1_8, og1_9, og1_10, og1_11, og1_12])), (g1_rate, .inl (cy 2, 7, .inl w1_rate))]) (ws2 := [(h0, .inr (2, [oh0_0, .int v_date, .int v_drawSeed_5, .ref h0_age, .ref h0_riches, .ref h0_out])), (h0_age, .inl (cy 2, 6, .inl v_age)), (h0_riches, .inl (cy 2, 6, .inl v_riches)), (h0_out, .inl (cy 2, 6, .inl v_out)), (g1, .inr (0, [.int w1_parts, .int w1_mouths, og1_2, .int w1_persons, .int w1_interest, og1_5, og1_6, .ref g1_rate, og1_8, og1_9, og1_10, og1_11, og1_12])), (g1_rate, .inl (cy 2, 7, .inl w1_rate))]) (isC := [0, 3]) (isR := [1, 2, 4, 5]) (pm := [4, 0, 1, 5, 2, 3]) hx hb hml hown hts (c2_isUp l D cy N h0 h0_out oh0_0 (.int v_date) (.int v_drawSeed_5) (.ref h0_age) (.ref h0_riches) r5 v_out r11 hc11) (cwV 1 hts gX2_driftOnce_X2_isUp rfl rfl rfl (by decide +kernel) ⟨Nat.le_of_ble_eq_true rfl, Nat.le_of_ble_eq_true rfl⟩) hK hP hD hS hA rfl rfl rfl rfl rfl (by decide) rfl rfl rfl hl.1 (Nat.le_of_ble_eq_true rfl) dX2_driftOnce_11 ⟨Nat.zero_le _, Nat.zero_le _⟩ rfl rfl (fun H locs hP hD hS => ?_)
  refine lv_if_eq (tgt := 59) hx hb dX2_driftOnce_14 (by decide) (fun c14 => ?_) (fun c14 => ?_)
  · have hM := g_pos c14 hM
    refine lv_aload_n hx hb dX2_driftOnce_59 rfl (lv_at hl 1 rfl) ?_
    refine lv_aload_n hx hb dX2_driftOnce_60 rfl (lv_at hl 1 rfl) ?_
    refine lv_bipush (v := 60) hx hb dX2_driftOnce_61 (by decide) ?_
    obtain ⟨r63, v_drawSeed_63, hc63, hM⟩ := ob2_some hM
    refine cl_vi (As := [.int (60 : Int32)]) (rest := [.ref h0]) (ci := 2) (q0 := 0) (wr := [(h0_age, .inl (cy 2, 6, .inl v_age)), (h0_riches, .inl (cy 2, 6, .inl v_riches)), (h0_out, .inl (cy 2, 6, .inl v_out)), (g1, .inr (0, [.int w1_parts, .int w1_mouths, og1_2, .int w1_persons, .int w1_interest, og1_5, og1_6, .ref g1_rate, og1_8, og1_9, og1_10, og1_11, og1_12])), (g1_rate, .inl (cy 2, 7, .inl w1_rate))]) (ws2 := [(h0, .inr (2, [oh0_0, .int v_date, .int v_drawSeed_63, .ref h0_age, .ref h0_riches, .ref h0_out])), (h0_age, .inl (cy 2, 6, .inl v_age)), (h0_riches, .inl (cy 2, 6, .inl v_riches)), (h0_out, .inl (cy 2, 6, .inl v_out)), (g1, .inr (0, [.int w1_parts, .int w1_mouths, og1_2, .int w1_persons, .int w1_interest, og1_5, og1_6, .ref g1_rate, og1_8, og1_9, og1_10, og1_11, og1_12])), (g1_rate, .inl (cy 2, 7, .inl w1_rate))]) (isC := [0]) (isR := [1, 2, 3, 4, 5]) (pm := [5, 0, 1, 2, 3, 4]) hx hb hml hown hts (c2_nextDraw l D cy N h0 oh0_0 (.int v_date) (.ref h0_age) (.ref h0_riches) (.ref h0_out) (60 : Int32) v_drawSeed_5 r63 v_drawSeed_63 hc63) (cwV 1 hts gX2_driftOnce_X2_nextDraw rfl rfl rfl (by decide +kernel) ⟨Nat.le_of_ble_eq_true rfl, Nat.le_of_ble_eq_true rfl⟩) hK hP hD hS hA rfl rfl rfl rfl rfl (by decide) rfl rfl rfl hl.1 (Nat.le_of_ble_eq_true rfl) dX2_driftOnce_63 ⟨Nat.zero_le _, Nat.zero_le _⟩ rfl rfl (fun H locs hP hD hS => ?_)
    refine lv_aload_n hx hb dX2_driftOnce_66 rfl (lv_at hl 2 rfl) ?_
    obtain ⟨v_date_67, v_age_67, v_riches_67, v_out_67, hc67, hM⟩ := ob4_some hM
    refine cl_vv (As := [.int r63, .ref g1]) (rest := []) (ci := 2) (q0 := 0) (wr := [(g1_rate, .inl (cy 2, 7, .inl w1_rate))]) (ws2 := [(h0, .inr (2, [oh0_0, .int v_date_67, .int v_drawSeed_63, .ref h0_age, .ref h0_riches, .ref h0_out])), (h0_age, .inl (cy 2, 6, .inl v_age_67)), (h0_riches, .inl (cy 2, 6, .inl v_riches_67)), (h0_out, .inl (cy 2, 6, .inl v_out_67)), (g1, .inr (0, [.int w1_parts, .int w1_mouths, og1_2, .int w1_persons, .int w1_interest, og1_5, og1_6, .ref g1_rate, og1_8, og1_9, og1_10, og1_11, og1_12])), (g1_rate, .inl (cy 2, 7, .inl w1_rate))]) (isC := [0, 1, 2, 3, 4]) (isR := [5]) (pm := [1, 2, 3, 4, 5, 0]) hx hb hml hown hts (c2_letPass l D cy N h0 h0_age h0_riches h0_out g1 oh0_0 (.int v_drawSeed_63) (.int w1_parts) (.int w1_mouths) og1_2 og1_5 og1_6 (.ref g1_rate) og1_8 og1_9 og1_10 og1_11 og1_12 r63 v_date v_age v_riches v_out w1_persons w1_interest v_date_67 v_age_67 v_riches_67 v_out_67 hc67) (cwV 2 hts gX2_driftOnce_X2_letPass rfl rfl rfl (by decide +kernel) ⟨Nat.le_of_ble_eq_true rfl, Nat.le_of_ble_eq_true rfl⟩) hK hP hD hS hA rfl rfl rfl rfl rfl (by decide) rfl rfl rfl hl.1 (Nat.le_of_ble_eq_true rfl) dX2_driftOnce_67 ⟨Nat.zero_le _, Nat.zero_le _⟩ rfl rfl (fun H locs hP hD hS => ?_)
    obtain ⟨rfl, rfl, rfl, rfl, rfl⟩ := si5 hM
    exact hret _ _ _ _ dX2_driftOnce_70 hP hD hS
  · have hM := g_neg c14 hM
    refine lv_aload_n hx hb dX2_driftOnce_17 rfl (lv_at hl 1 rfl) ?_
    refine lv_aload_n hx hb dX2_driftOnce_18 rfl (lv_at hl 2 rfl) ?_
    refine va_get (D := D) (ci := 0) (v := .int w1_parts) (C := RX0) (T := TX0) (N := 13) hx hb hts iX0 hown hK hP 4 rfl rfl 0 (by decide) k69 (fun _ h9 => h9) rfl dX2_driftOnce_19 ?_
    obtain ⟨r22, v_drawSeed_22, hc22, hM⟩ := ob2_some hM
    refine cl_vi (As := [.int w1_parts]) (rest := []) (ci := 2) (q0 := 0) (wr := [(h0_age, .inl (cy 2, 6, .inl v_age)), (h0_riches, .inl (cy 2, 6, .inl v_riches)), (h0_out, .inl (cy 2, 6, .inl v_out)), (g1, .inr (0, [.int w1_parts, .int w1_mouths, og1_2, .int w1_persons, .int w1_interest, og1_5, og1_6, .ref g1_rate, og1_8, og1_9, og1_10, og1_11, og1_12])), (g1_rate, .inl (cy 2, 7, .inl w1_rate))]) (ws2 := [(h0, .inr (2, [oh0_0, .int v_date, .int v_drawSeed_22, .ref h0_age, .ref h0_riches, .ref h0_out])), (h0_age, .inl (cy 2, 6, .inl v_age)), (h0_riches, .inl (cy 2, 6, .inl v_riches)), (h0_out, .inl (cy 2, 6, .inl v_out)), (g1, .inr (0, [.int w1_parts, .int w1_mouths, og1_2, .int w1_persons, .int w1_interest, og1_5, og1_6, .ref g1_rate, og1_8, og1_9, og1_10, og1_11, og1_12])), (g1_rate, .inl (cy 2, 7, .inl w1_rate))]) (isC := [0]) (isR := [1, 2, 3, 4, 5]) (pm := [5, 0, 1, 2, 3, 4]) hx hb hml hown hts (c2_nextDraw l D cy N h0 oh0_0 (.int v_date) (.ref h0_age) (.ref h0_riches) (.ref h0_out) w1_parts v_drawSeed_5 r22 v_drawSeed_22 hc22) (cwV 1 hts gX2_driftOnce_X2_nextDraw rfl rfl rfl (by decide +kernel) ⟨Nat.le_of_ble_eq_true rfl, Nat.le_of_ble_eq_true rfl⟩) hK hP hD hS hA rfl rfl rfl rfl rfl (by decide) rfl rfl rfl hl.1 (Nat.le_of_ble_eq_true rfl) dX2_driftOnce_22 ⟨Nat.zero_le _, Nat.zero_le _⟩ rfl rfl (fun H locs hP hD hS => ?_)
    refine lv_istore_n (lv' := [(3, .int r22), (2, .int r5), (0, .ref h0), (1, .ref g1)]) hx hb dX2_driftOnce_25 rfl hl (by decide) rfl (fun ls hl => ?_)
    refine lv_aload_n hx hb dX2_driftOnce_26 rfl (lv_at hl 2 rfl) ?_
    refine lv_bipush (v := 9) hx hb dX2_driftOnce_27 (by decide) ?_
    obtain ⟨r29, v_drawSeed_29, hc29, hM⟩ := ob2_some hM
    refine cl_vi (As := [.int (9 : Int32)]) (rest := []) (ci := 2) (q0 := 0) (wr := [(h0_age, .inl (cy 2, 6, .inl v_age)), (h0_riches, .inl (cy 2, 6, .inl v_riches)), (h0_out, .inl (cy 2, 6, .inl v_out)), (g1, .inr (0, [.int w1_parts, .int w1_mouths, og1_2, .int w1_persons, .int w1_interest, og1_5, og1_6, .ref g1_rate, og1_8, og1_9, og1_10, og1_11, og1_12])), (g1_rate, .inl (cy 2, 7, .inl w1_rate))]) (ws2 := [(h0, .inr (2, [oh0_0, .int v_date, .int v_drawSeed_29, .ref h0_age, .ref h0_riches, .ref h0_out])), (h0_age, .inl (cy 2, 6, .inl v_age)), (h0_riches, .inl (cy 2, 6, .inl v_riches)), (h0_out, .inl (cy 2, 6, .inl v_out)), (g1, .inr (0, [.int w1_parts, .int w1_mouths, og1_2, .int w1_persons, .int w1_interest, og1_5, og1_6, .ref g1_rate, og1_8, og1_9, og1_10, og1_11, og1_12])), (g1_rate, .inl (cy 2, 7, .inl w1_rate))]) (isC := [0]) (isR := [1, 2, 3, 4, 5]) (pm := [5, 0, 1, 2, 3, 4]) hx hb hml hown hts (c2_nextDraw l D cy N h0 oh0_0 (.int v_date) (.ref h0_age) (.ref h0_riches) (.ref h0_out) (9 : Int32) v_drawSeed_22 r29 v_drawSeed_29 hc29) (cwV 1 hts gX2_driftOnce_X2_nextDraw rfl rfl rfl (by decide +kernel) ⟨Nat.le_of_ble_eq_true rfl, Nat.le_of_ble_eq_true rfl⟩) hK hP hD hS hA rfl rfl rfl rfl rfl (by decide) rfl rfl rfl hl.1 (Nat.le_of_ble_eq_true rfl) dX2_driftOnce_29 ⟨Nat.zero_le _, Nat.zero_le _⟩ rfl rfl (fun H locs hP hD hS => ?_)
    refine lv_iconst (v := 1) hx hb dX2_driftOnce_32 (by decide) ?_
    refine lv_iadd hx hb dX2_driftOnce_33 ?_
    refine lv_istore (lv' := [(4, .int (r29 + (1 : Int32))), (3, .int r22), (2, .int r5), (0, .ref h0), (1, .ref g1)]) hx hb dX2_driftOnce_34 hl (by decide) rfl (fun ls hl => ?_)
    refine lv_aload_n hx hb dX2_driftOnce_36 rfl (lv_at hl 4 rfl) ?_
    refine lv_iload_n hx hb dX2_driftOnce_37 rfl (lv_at hl 1 rfl) ?_
    obtain ⟨r38, hc38, hM⟩ := ob1_some hM
    refine cl_vi (As := [.int r22]) (rest := []) (ci := 0) (q0 := 4) (wr := [(h0, .inr (2, [oh0_0, .int v_date, .int v_drawSeed_29, .ref h0_age, .ref h0_riches, .ref h0_out])), (h0_age, .inl (cy 2, 6, .inl v_age)), (h0_riches, .inl (cy 2, 6, .inl v_riches)), (h0_out, .inl (cy 2, 6, .inl v_out)), (g1_rate, .inl (cy 2, 7, .inl w1_rate))]) (ws2 := [(h0, .inr (2, [oh0_0, .int v_date, .int v_drawSeed_29, .ref h0_age, .ref h0_riches, .ref h0_out])), (h0_age, .inl (cy 2, 6, .inl v_age)), (h0_riches, .inl (cy 2, 6, .inl v_riches)), (h0_out, .inl (cy 2, 6, .inl v_out)), (g1, .inr (0, [.int w1_parts, .int w1_mouths, og1_2, .int w1_persons, .int w1_interest, og1_5, og1_6, .ref g1_rate, og1_8, og1_9, og1_10, og1_11, og1_12])), (g1_rate, .inl (cy 2, 7, .inl w1_rate))]) (isC := [4]) (isR := [0, 1, 2, 3, 5]) (pm := [0, 1, 2, 3, 5, 4]) hx hb hml hown hts (c0_hasMouth l D cy N g1 og1_2 (.int w1_persons) (.int w1_interest) og1_5 og1_6 (.ref g1_rate) og1_8 og1_9 og1_10 og1_11 og1_12 r22 w1_parts w1_mouths r38 hc38) (cwV 1 hts gX2_driftOnce_X0_hasMouth rfl rfl rfl (by decide +kernel) ⟨Nat.le_of_ble_eq_true rfl, Nat.le_of_ble_eq_true rfl⟩) hK hP hD hS hA rfl rfl rfl rfl rfl (by decide) rfl rfl rfl hl.1 (Nat.le_of_ble_eq_true rfl) dX2_driftOnce_38 ⟨Nat.zero_le _, Nat.zero_le _⟩ rfl rfl (fun H locs hP hD hS => ?_)
    refine lv_if_eq (tgt := 59) hx hb dX2_driftOnce_41 (by decide) (fun c41 => ?_) (fun c41 => ?_)
    · have hM := g_pos c41 hM
      refine lv_aload_n hx hb dX2_driftOnce_59 rfl (lv_at hl 3 rfl) ?_
      refine lv_aload_n hx hb dX2_driftOnce_60 rfl (lv_at hl 3 rfl) ?_
      refine lv_bipush (v := 60) hx hb dX2_driftOnce_61 (by decide) ?_
      obtain ⟨r63, v_drawSeed_63, hc63, hM⟩ := ob2_some hM
      refine cl_vi (As := [.int (60 : Int32)]) (rest := [.ref h0]) (ci := 2) (q0 := 0) (wr := [(h0_age, .inl (cy 2, 6, .inl v_age)), (h0_riches, .inl (cy 2, 6, .inl v_riches)), (h0_out, .inl (cy 2, 6, .inl v_out)), (g1, .inr (0, [.int w1_parts, .int w1_mouths, og1_2, .int w1_persons, .int w1_interest, og1_5, og1_6, .ref g1_rate, og1_8, og1_9, og1_10, og1_11, og1_12])), (g1_rate, .inl (cy 2, 7, .inl w1_rate))]) (ws2 := [(h0, .inr (2, [oh0_0, .int v_date, .int v_drawSeed_63, .ref h0_age, .ref h0_riches, .ref h0_out])), (h0_age, .inl (cy 2, 6, .inl v_age)), (h0_riches, .inl (cy 2, 6, .inl v_riches)), (h0_out, .inl (cy 2, 6, .inl v_out)), (g1, .inr (0, [.int w1_parts, .int w1_mouths, og1_2, .int w1_persons, .int w1_interest, og1_5, og1_6, .ref g1_rate, og1_8, og1_9, og1_10, og1_11, og1_12])), (g1_rate, .inl (cy 2, 7, .inl w1_rate))]) (isC := [0]) (isR := [1, 2, 3, 4, 5]) (pm := [5, 0, 1, 2, 3, 4]) hx hb hml hown hts (c2_nextDraw l D cy N h0 oh0_0 (.int v_date) (.ref h0_age) (.ref h0_riches) (.ref h0_out) (60 : Int32) v_drawSeed_29 r63 v_drawSeed_63 hc63) (cwV 1 hts gX2_driftOnce_X2_nextDraw rfl rfl rfl (by decide +kernel) ⟨Nat.le_of_ble_eq_true rfl, Nat.le_of_ble_eq_true rfl⟩) hK hP hD hS hA rfl rfl rfl rfl rfl (by decide) rfl rfl rfl hl.1 (Nat.le_of_ble_eq_true rfl) dX2_driftOnce_63 ⟨Nat.zero_le _, Nat.zero_le _⟩ rfl rfl (fun H locs hP hD hS => ?_)
      refine lv_aload_n hx hb dX2_driftOnce_66 rfl (lv_at hl 4 rfl) ?_
      obtain ⟨v_date_67, v_age_67, v_riches_67, v_out_67, hc67, hM⟩ := ob4_some hM
      refine cl_vv (As := [.int r63, .ref g1]) (rest := []) (ci := 2) (q0 := 0) (wr := [(g1_rate, .inl (cy 2, 7, .inl w1_rate))]) (ws2 := [(h0, .inr (2, [oh0_0, .int v_date_67, .int v_drawSeed_63, .ref h0_age, .ref h0_riches, .ref h0_out])), (h0_age, .inl (cy 2, 6, .inl v_age_67)), (h0_riches, .inl (cy 2, 6, .inl v_riches_67)), (h0_out, .inl (cy 2, 6, .inl v_out_67)), (g1, .inr (0, [.int w1_parts, .int w1_mouths, og1_2, .int w1_persons, .int w1_interest, og1_5, og1_6, .ref g1_rate, og1_8, og1_9, og1_10, og1_11, og1_12])), (g1_rate, .inl (cy 2, 7, .inl w1_rate))]) (isC := [0, 1, 2, 3, 4]) (isR := [5]) (pm := [1, 2, 3, 4, 5, 0]) hx hb hml hown hts (c2_letPass l D cy N h0 h0_age h0_riches h0_out g1 oh0_0 (.int v_drawSeed_63) (.int w1_parts) (.int w1_mouths) og1_2 og1_5 og1_6 (.ref g1_rate) og1_8 og1_9 og1_10 og1_11 og1_12 r63 v_date v_age v_riches v_out w1_persons w1_interest v_date_67 v_age_67 v_riches_67 v_out_67 hc67) (cwV 2 hts gX2_driftOnce_X2_letPass rfl rfl rfl (by decide +kernel) ⟨Nat.le_of_ble_eq_true rfl, Nat.le_of_ble_eq_true rfl⟩) hK hP hD hS hA rfl rfl rfl rfl rfl (by decide) rfl rfl rfl hl.1 (Nat.le_of_ble_eq_true rfl) dX2_driftOnce_67 ⟨Nat.zero_le _, Nat.zero_le _⟩ rfl rfl (fun H locs hP hD hS => ?_)
      obtain ⟨rfl, rfl, rfl, rfl, rfl⟩ := si5 hM
      exact hret _ _ _ _ dX2_driftOnce_70 hP hD hS
    · have hM := g_neg c41 hM
      refine lv_aload_n hx hb dX2_driftOnce_44 rfl (lv_at hl 3 rfl) ?_
      refine lv_iload_n hx hb dX2_driftOnce_45 rfl (lv_at hl 2 rfl) ?_
      refine lv_iload hx hb dX2_driftOnce_46 (lv_at hl 0 rfl) ?_
      refine lv_iload hx hb dX2_driftOnce_48 (lv_at hl 0 rfl) ?_
      refine lv_aload_n hx hb dX2_driftOnce_50 rfl (lv_at hl 4 rfl) ?_
      refine lv_iload_n hx hb dX2_driftOnce_51 rfl (lv_at hl 1 rfl) ?_
      obtain ⟨r52, hc52, hM⟩ := ob1_some hM
      refine cl_vi (As := [.int r22]) (rest := [.int (r29 + (1 : Int32)), .int (r29 + (1 : Int32)), .int r5, .ref h0]) (ci := 0) (q0 := 4) (wr := [(h0, .inr (2, [oh0_0, .int v_date, .int v_drawSeed_29, .ref h0_age, .ref h0_riches, .ref h0_out])), (h0_age, .inl (cy 2, 6, .inl v_age)), (h0_riches, .inl (cy 2, 6, .inl v_riches)), (h0_out, .inl (cy 2, 6, .inl v_out))]) (ws2 := [(h0, .inr (2, [oh0_0, .int v_date, .int v_drawSeed_29, .ref h0_age, .ref h0_riches, .ref h0_out])), (h0_age, .inl (cy 2, 6, .inl v_age)), (h0_riches, .inl (cy 2, 6, .inl v_riches)), (h0_out, .inl (cy 2, 6, .inl v_out)), (g1, .inr (0, [.int w1_parts, .int w1_mouths, og1_2, .int w1_persons, .int w1_interest, og1_5, og1_6, .ref g1_rate, og1_8, og1_9, og1_10, og1_11, og1_12])), (g1_rate, .inl (cy 2, 7, .inl w1_rate))]) (isC := [4, 5]) (isR := [0, 1, 2, 3]) (pm := [0, 1, 2, 3, 4, 5]) hx hb hml hown hts (c0_rateOf l D cy N g1 g1_rate (.int w1_mouths) og1_2 (.int w1_persons) (.int w1_interest) og1_5 og1_6 og1_8 og1_9 og1_10 og1_11 og1_12 r22 w1_parts w1_rate r52 hc52) (cwV 1 hts gX2_driftOnce_X0_rateOf rfl rfl rfl (by decide +kernel) ⟨Nat.le_of_ble_eq_true rfl, Nat.le_of_ble_eq_true rfl⟩) hK hP hD hS hA rfl rfl rfl rfl rfl (by decide) rfl rfl rfl hl.1 (Nat.le_of_ble_eq_true rfl) dX2_driftOnce_52 ⟨Nat.zero_le _, Nat.zero_le _⟩ rfl rfl (fun H locs hP hD hS => ?_)
      refine lv_imul hx hb dX2_driftOnce_55 ?_
      obtain ⟨v_age_56, v_out_56, hc56, hM⟩ := ob2_some hM
      refine cl_vv (As := [.int r5, .int (r29 + (1 : Int32)), .int ((r29 + (1 : Int32)) * r52)]) (rest := []) (ci := 2) (q0 := 0) (wr := [(h0_riches, .inl (cy 2, 6, .inl v_riches)), (g1, .inr (0, [.int w1_parts, .int w1_mouths, og1_2, .int w1_persons, .int w1_interest, og1_5, og1_6, .ref g1_rate, og1_8, og1_9, og1_10, og1_11, og1_12])), (g1_rate, .inl (cy 2, 7, .inl w1_rate))]) (ws2 := [(h0, .inr (2, [oh0_0, .int v_date, .int v_drawSeed_29, .ref h0_age, .ref h0_riches, .ref h0_out])), (h0_age, .inl (cy 2, 6, .inl v_age_56)), (h0_riches, .inl (cy 2, 6, .inl v_riches)), (h0_out, .inl (cy 2, 6, .inl v_out_56)), (g1, .inr (0, [.int w1_parts, .int w1_mouths, og1_2, .int w1_persons, .int w1_interest, og1_5, og1_6, .ref g1_rate, og1_8, og1_9, og1_10, og1_11, og1_12])), (g1_rate, .inl (cy 2, 7, .inl w1_rate))]) (isC := [0, 1, 3]) (isR := [2, 4, 5]) (pm := [3, 4, 0, 5, 1, 2]) hx hb hml hown hts (c2_goIn l D cy N h0 h0_age h0_out oh0_0 (.int v_drawSeed_29) (.ref h0_riches) r5 (r29 + (1 : Int32)) ((r29 + (1 : Int32)) * r52) v_date v_age v_out v_age_56 v_out_56 hc56) (cwV 3 hts gX2_driftOnce_X2_goIn rfl rfl rfl (by decide +kernel) ⟨Nat.le_of_ble_eq_true rfl, Nat.le_of_ble_eq_true rfl⟩) hK hP hD hS hA rfl rfl rfl rfl rfl (by decide) rfl rfl rfl hl.1 (Nat.le_of_ble_eq_true rfl) dX2_driftOnce_56 ⟨Nat.zero_le _, Nat.zero_le _⟩ rfl rfl (fun H locs hP hD hS => ?_)
      refine lv_aload_n hx hb dX2_driftOnce_59 rfl (lv_at hl 3 rfl) ?_
      refine lv_aload_n hx hb dX2_driftOnce_60 rfl (lv_at hl 3 rfl) ?_
      refine lv_bipush (v := 60) hx hb dX2_driftOnce_61 (by decide) ?_
      obtain ⟨r63, v_drawSeed_63, hc63, hM⟩ := ob2_some hM
      refine cl_vi (As := [.int (60 : Int32)]) (rest := [.ref h0]) (ci := 2) (q0 := 0) (wr := [(h0_age, .inl (cy 2, 6, .inl v_age_56)), (h0_riches, .inl (cy 2, 6, .inl v_riches)), (h0_out, .inl (cy 2, 6, .inl v_out_56)), (g1, .inr (0, [.int w1_parts, .int w1_mouths, og1_2, .int w1_persons, .int w1_interest, og1_5, og1_6, .ref g1_rate, og1_8, og1_9, og1_10, og1_11, og1_12])), (g1_rate, .inl (cy 2, 7, .inl w1_rate))]) (ws2 := [(h0, .inr (2, [oh0_0, .int v_date, .int v_drawSeed_63, .ref h0_age, .ref h0_riches, .ref h0_out])), (h0_age, .inl (cy 2, 6, .inl v_age_56)), (h0_riches, .inl (cy 2, 6, .inl v_riches)), (h0_out, .inl (cy 2, 6, .inl v_out_56)), (g1, .inr (0, [.int w1_parts, .int w1_mouths, og1_2, .int w1_persons, .int w1_interest, og1_5, og1_6, .ref g1_rate, og1_8, og1_9, og1_10, og1_11, og1_12])), (g1_rate, .inl (cy 2, 7, .inl w1_rate))]) (isC := [0]) (isR := [1, 2, 3, 4, 5]) (pm := [5, 0, 1, 2, 3, 4]) hx hb hml hown hts (c2_nextDraw l D cy N h0 oh0_0 (.int v_date) (.ref h0_age) (.ref h0_riches) (.ref h0_out) (60 : Int32) v_drawSeed_29 r63 v_drawSeed_63 hc63) (cwV 1 hts gX2_driftOnce_X2_nextDraw rfl rfl rfl (by decide +kernel) ⟨Nat.le_of_ble_eq_true rfl, Nat.le_of_ble_eq_true rfl⟩) hK hP hD hS hA rfl rfl rfl rfl rfl (by decide) rfl rfl rfl hl.1 (Nat.le_of_ble_eq_true rfl) dX2_driftOnce_63 ⟨Nat.zero_le _, Nat.zero_le _⟩ rfl rfl (fun H locs hP hD hS => ?_)
      refine lv_aload_n hx hb dX2_driftOnce_66 rfl (lv_at hl 4 rfl) ?_
      obtain ⟨v_date_67, v_age_67, v_riches_67, v_out_67, hc67, hM⟩ := ob4_some hM
      refine cl_vv (As := [.int r63, .ref g1]) (rest := []) (ci := 2) (q0 := 0) (wr := [(g1_rate, .inl (cy 2, 7, .inl w1_rate))]) (ws2 := [(h0, .inr (2, [oh0_0, .int v_date_67, .int v_drawSeed_63, .ref h0_age, .ref h0_riches, .ref h0_out])), (h0_age, .inl (cy 2, 6, .inl v_age_67)), (h0_riches, .inl (cy 2, 6, .inl v_riches_67)), (h0_out, .inl (cy 2, 6, .inl v_out_67)), (g1, .inr (0, [.int w1_parts, .int w1_mouths, og1_2, .int w1_persons, .int w1_interest, og1_5, og1_6, .ref g1_rate, og1_8, og1_9, og1_10, og1_11, og1_12])), (g1_rate, .inl (cy 2, 7, .inl w1_rate))]) (isC := [0, 1, 2, 3, 4]) (isR := [5]) (pm := [1, 2, 3, 4, 5, 0]) hx hb hml hown hts (c2_letPass l D cy N h0 h0_age h0_riches h0_out g1 oh0_0 (.int v_drawSeed_63) (.int w1_parts) (.int w1_mouths) og1_2 og1_5 og1_6 (.ref g1_rate) og1_8 og1_9 og1_10 og1_11 og1_12 r63 v_date v_age_56 v_riches v_out_56 w1_persons w1_interest v_date_67 v_age_67 v_riches_67 v_out_67 hc67) (cwV 2 hts gX2_driftOnce_X2_letPass rfl rfl rfl (by decide +kernel) ⟨Nat.le_of_ble_eq_true rfl, Nat.le_of_ble_eq_true rfl⟩) hK hP hD hS hA rfl rfl rfl rfl rfl (by decide) rfl rfl rfl hl.1 (Nat.le_of_ble_eq_true rfl) dX2_driftOnce_67 ⟨Nat.zero_le _, Nat.zero_le _⟩ rfl rfl (fun H locs hP hD hS => ?_)
      obtain ⟨rfl, rfl, rfl, rfl, rfl⟩ := si5 hM
      exact hret _ _ _ _ dX2_driftOnce_70 hP hD hS

-- ===== X2_copyFrom copyFrom (LCaveYears$Folk;)V =====
abbrev r2_copyFrom : Room := { frames := 0, cells := 0, slots := 0, locals := 0 }
def f2_copyFrom_L18 (N : Nat) (w1_age : Nat → Int32) (w1_riches : Nat → Int32) (w1_out : Nat → Int32) : Nat → Int32 → (Nat → Int32) → (Nat → Int32) → (Nat → Int32) → Option ((Nat → Int32) × (Nat → Int32) × (Nat → Int32))
  | 0, _, _, _, _ => none
  | n + 1, x2_18, v_age_18, v_riches_18, v_out_18 => if (6 : Int32) ≤ x2_18 then (some (v_age_18, v_riches_18, v_out_18)) else (gi x2_18 6 (gi x2_18 6 (gi x2_18 6 (gi x2_18 6 (gi x2_18 6 (gi x2_18 6 ((f2_copyFrom_L18 N w1_age w1_riches w1_out n) (x2_18 + (1 : Int32)) (upd v_age_18 x2_18.toNatClampNeg (w1_age x2_18.toNatClampNeg)) (upd v_riches_18 x2_18.toNatClampNeg (w1_riches x2_18.toNatClampNeg)) (upd v_out_18 x2_18.toNatClampNeg (w1_out x2_18.toNatClampNeg)))))))))
def f2_copyFrom (N : Nat) (v_date : Int32) (v_drawSeed : Int32) (v_age : Nat → Int32) (v_riches : Nat → Int32) (v_out : Nat → Int32) (w1_date : Int32) (w1_drawSeed : Int32) (w1_age : Nat → Int32) (w1_riches : Nat → Int32) (w1_out : Nat → Int32) : Option (Int32 × Int32 × (Nat → Int32) × (Nat → Int32) × (Nat → Int32)) :=
  ob3 (f2_copyFrom_L18 N w1_age w1_riches w1_out N (0 : Int32) v_age v_riches v_out) fun v_age_e18 v_riches_e18 v_out_e18 => some (w1_date, w1_drawSeed, v_age_e18, v_riches_e18, v_out_e18)
set_option maxHeartbeats 4000000 in
set_option maxRecDepth 100000 in
theorem c2_copyFrom (l : Launch) (D : va_G) (cy : Nat → ClassId) (N : Nat) (h0 h0_age h0_riches h0_out g1 g1_age g1_riches g1_out : Nat) (oh0_0 og1_0 : Value) (v_date : Int32) (v_drawSeed : Int32) (v_age : Nat → Int32) (v_riches : Nat → Int32) (v_out : Nat → Int32) (w1_date : Int32) (w1_drawSeed : Int32) (w1_age : Nat → Int32) (w1_riches : Nat → Int32) (w1_out : Nat → Int32) (nv_date : Int32) (nv_drawSeed : Int32) (nv_age : Nat → Int32) (nv_riches : Nat → Int32) (nv_out : Nat → Int32) (hM : f2_copyFrom N v_date v_drawSeed v_age v_riches v_out w1_date w1_drawSeed w1_age w1_riches w1_out = some (nv_date, nv_drawSeed, nv_age, nv_riches, nv_out)) (sz : Nat) : CTv l yX2_copyFrom wsX2_copyFrom r2_copyFrom [.ref h0, .ref g1] D cy sz [(h0, .inr (2, [oh0_0, .int v_date, .int v_drawSeed, .ref h0_age, .ref h0_riches, .ref h0_out])), (h0_age, .inl (cy 2, 6, .inl v_age)), (h0_riches, .inl (cy 2, 6, .inl v_riches)), (h0_out, .inl (cy 2, 6, .inl v_out)), (g1, .inr (2, [og1_0, .int w1_date, .int w1_drawSeed, .ref g1_age, .ref g1_riches, .ref g1_out])), (g1_age, .inl (cy 2, 6, .inl w1_age)), (g1_riches, .inl (cy 2, 6, .inl w1_riches)), (g1_out, .inl (cy 2, 6, .inl w1_out))] [(h0, .inr (2, [oh0_0, .int nv_date, .int nv_drawSeed, .ref h0_age, .ref h0_riches, .ref h0_out])), (h0_age, .inl (cy 2, 6, .inl nv_age)), (h0_riches, .inl (cy 2, 6, .inl nv_riches)), (h0_out, .inl (cy 2, 6, .inl nv_out)), (g1, .inr (2, [og1_0, .int w1_date, .int w1_drawSeed, .ref g1_age, .ref g1_riches, .ref g1_out])), (g1_age, .inl (cy 2, 6, .inl w1_age)), (g1_riches, .inl (cy 2, 6, .inl w1_riches)), (g1_out, .inl (cy 2, 6, .inl w1_out))] := by
  unfold f2_copyFrom at hM
  refine ct_ov (cc := cX2_copyFrom) (maxL := 3)  (by decide +kernel) rfl (Nat.le_of_ble_eq_true rfl) (lv0 := [(0, .ref h0), (1, .ref g1)]) rfl ?_
  intro p e s m args below meth c A Q ls hx hb hts hown hml hK hP hD hS hA hret hl
  have hown : s.vm.findClass RX2 = some m.cls := hown
  have k21 := hts (.fieldLink RX2 21 "CaveYears$Folk" "date" "I") (List.mem_of_getElem? (i := 1) rfl)
  have iX2 := (fun w h => (List.mem_cons_of_mem _ (List.mem_append_right _ h)) : ∀ w ∈ wsX20, w ∈ wsX2_copyFrom)
  have k33 := hts (.fieldLink RX2 33 "CaveYears$Folk" "drawSeed" "I") (List.mem_of_getElem? (i := 2) rfl)
  have k9 := hts (.fieldLink RX2 9 "CaveYears$Folk" "age" "[I") (List.mem_of_getElem? (i := 3) rfl)
  have k15 := hts (.fieldLink RX2 15 "CaveYears$Folk" "riches" "[I") (List.mem_of_getElem? (i := 4) rfl)
  have k18 := hts (.fieldLink RX2 18 "CaveYears$Folk" "out" "[I") (List.mem_of_getElem? (i := 5) rfl)
  refine lv_aload_n hx hb dX2_copyFrom_0 rfl (lv_at hl 0 rfl) ?_
  refine lv_aload_n hx hb dX2_copyFrom_1 rfl (lv_at hl 1 rfl) ?_
  refine va_get (D := D) (ci := 2) (v := .int w1_date) (C := RX2) (T := TX2) (N := 6) hx hb hts iX2 hown hK hP 4 rfl rfl 1 (by decide) k21 (fun _ h9 => h9) rfl dX2_copyFrom_2 ?_
  refine va_put (D := D) (ci := 2) (v := .int w1_date) (ty := .int) (C := RX2) (T := TX2) (N := 6) hx hb hts iX2 tyX2 tyX2_ok nmX2 hown hK hP hD hS 0 rfl rfl 1 (by decide) k21 (fun _ h9 => h9) rfl (by decide +kernel) rfl rfl (Nat.le_of_ble_eq_true rfl) dX2_copyFrom_5 (fun H locs hP hD hS => ?_)
  have hP : va_P D vwCl [(h0, .inr (2, [oh0_0, .int w1_date, .int v_drawSeed, .ref h0_age, .ref h0_riches, .ref h0_out])), (h0_age, .inl (cy 2, 6, .inl v_age)), (h0_riches, .inl (cy 2, 6, .inl v_riches)), (h0_out, .inl (cy 2, 6, .inl v_out)), (g1, .inr (2, [og1_0, .int w1_date, .int w1_drawSeed, .ref g1_age, .ref g1_riches, .ref g1_out])), (g1_age, .inl (cy 2, 6, .inl w1_age)), (g1_riches, .inl (cy 2, 6, .inl w1_riches)), (g1_out, .inl (cy 2, 6, .inl w1_out))] H := hP
  have hD : va_D A [(h0, .inr (2, [oh0_0, .int w1_date, .int v_drawSeed, .ref h0_age, .ref h0_riches, .ref h0_out])), (h0_age, .inl (cy 2, 6, .inl v_age)), (h0_riches, .inl (cy 2, 6, .inl v_riches)), (h0_out, .inl (cy 2, 6, .inl v_out)), (g1, .inr (2, [og1_0, .int w1_date, .int w1_drawSeed, .ref g1_age, .ref g1_riches, .ref g1_out])), (g1_age, .inl (cy 2, 6, .inl w1_age)), (g1_riches, .inl (cy 2, 6, .inl w1_riches)), (g1_out, .inl (cy 2, 6, .inl w1_out))] := hD
  refine lv_aload_n hx hb dX2_copyFrom_8 rfl (lv_at hl 0 rfl) ?_
  refine lv_aload_n hx hb dX2_copyFrom_9 rfl (lv_at hl 1 rfl) ?_
  refine va_get (D := D) (ci := 2) (v := .int w1_drawSeed) (C := RX2) (T := TX2) (N := 6) hx hb hts iX2 hown hK hP 4 rfl rfl 2 (by decide) k33 (fun _ h9 => h9) rfl dX2_copyFrom_10 ?_
  refine va_put (D := D) (ci := 2) (v := .int w1_drawSeed) (ty := .int) (C := RX2) (T := TX2) (N := 6) hx hb hts iX2 tyX2 tyX2_ok nmX2 hown hK hP hD hS 0 rfl rfl 2 (by decide) k33 (fun _ h9 => h9) rfl (by decide +kernel) rfl rfl (Nat.le_of_ble_eq_true rfl) dX2_copyFrom_13 (fun H locs hP hD hS => ?_)
  have hP : va_P D vwCl [(h0, .inr (2, [oh0_0, .int w1_date, .int w1_drawSeed, .ref h0_age, .ref h0_riches, .ref h0_out])), (h0_age, .inl (cy 2, 6, .inl v_age)), (h0_riches, .inl (cy 2, 6, .inl v_riches)), (h0_out, .inl (cy 2, 6, .inl v_out)), (g1, .inr (2, [og1_0, .int w1_date, .int w1_drawSeed, .ref g1_age, .ref g1_riches, .ref g1_out])), (g1_age, .inl (cy 2, 6, .inl w1_age)), (g1_riches, .inl (cy 2, 6, .inl w1_riches)), (g1_out, .inl (cy 2, 6, .inl w1_out))] H := hP
  have hD : va_D A [(h0, .inr (2, [oh0_0, .int w1_date, .int w1_drawSeed, .ref h0_age, .ref h0_riches, .ref h0_out])), (h0_age, .inl (cy 2, 6, .inl v_age)), (h0_riches, .inl (cy 2, 6, .inl v_riches)), (h0_out, .inl (cy 2, 6, .inl v_out)), (g1, .inr (2, [og1_0, .int w1_date, .int w1_drawSeed, .ref g1_age, .ref g1_riches, .ref g1_out])), (g1_age, .inl (cy 2, 6, .inl w1_age)), (g1_riches, .inl (cy 2, 6, .inl w1_riches)), (g1_out, .inl (cy 2, 6, .inl w1_out))] := hD
  refine lv_iconst (v := 0) hx hb dX2_copyFrom_16 (by decide) ?_
  refine lv_istore_n (lv' := [(2, .int (0 : Int32)), (0, .ref h0), (1, .ref g1)]) hx hb dX2_copyFrom_17 rfl hl (by decide) rfl (fun ls hl => ?_)
  have L18 : ∀ (n : Nat) (x2_18 : Int32) (v_age_18 : Nat → Int32) (v_riches_18 : Nat → Int32) (v_out_18 : Nat → Int32) (v_age_e18 : Nat → Int32) (v_riches_e18 : Nat → Int32) (v_out_e18 : Nat → Int32) (H : Heap) (locs : List Loc) (ls : Array Slot), f2_copyFrom_L18 N w1_age w1_riches w1_out n x2_18 v_age_18 v_riches_18 v_out_18 = some (v_age_e18, v_riches_e18, v_out_e18) → va_P D vwCl [(h0, .inr (2, [oh0_0, .int w1_date, .int w1_drawSeed, .ref h0_age, .ref h0_riches, .ref h0_out])), (h0_age, .inl (cy 2, 6, .inl v_age_18)), (h0_riches, .inl (cy 2, 6, .inl v_riches_18)), (h0_out, .inl (cy 2, 6, .inl v_out_18)), (g1, .inr (2, [og1_0, .int w1_date, .int w1_drawSeed, .ref g1_age, .ref g1_riches, .ref g1_out])), (g1_age, .inl (cy 2, 6, .inl w1_age)), (g1_riches, .inl (cy 2, 6, .inl w1_riches)), (g1_out, .inl (cy 2, 6, .inl w1_out))] H → va_D A [(h0, .inr (2, [oh0_0, .int w1_date, .int w1_drawSeed, .ref h0_age, .ref h0_riches, .ref h0_out])), (h0_age, .inl (cy 2, 6, .inl v_age_18)), (h0_riches, .inl (cy 2, 6, .inl v_riches_18)), (h0_out, .inl (cy 2, 6, .inl v_out_18)), (g1, .inr (2, [og1_0, .int w1_date, .int w1_drawSeed, .ref g1_age, .ref g1_riches, .ref g1_out])), (g1_age, .inl (cy 2, 6, .inl w1_age)), (g1_riches, .inl (cy 2, 6, .inl w1_riches)), (g1_out, .inl (cy 2, 6, .inl w1_out))] → va_S A s.heap H locs → lv_has ls 3 [(0, .ref h0), (1, .ref g1), (2, .int x2_18)] → (∀ (H : Heap) (locs : List Loc) (ls : Array Slot), va_P D vwCl [(h0, .inr (2, [oh0_0, .int w1_date, .int w1_drawSeed, .ref h0_age, .ref h0_riches, .ref h0_out])), (h0_age, .inl (cy 2, 6, .inl v_age_e18)), (h0_riches, .inl (cy 2, 6, .inl v_riches_e18)), (h0_out, .inl (cy 2, 6, .inl v_out_e18)), (g1, .inr (2, [og1_0, .int w1_date, .int w1_drawSeed, .ref g1_age, .ref g1_riches, .ref g1_out])), (g1_age, .inl (cy 2, 6, .inl w1_age)), (g1_riches, .inl (cy 2, 6, .inl w1_riches)), (g1_out, .inl (cy 2, 6, .inl w1_out))] H → va_D A [(h0, .inr (2, [oh0_0, .int w1_date, .int w1_drawSeed, .ref h0_age, .ref h0_riches, .ref h0_out])), (h0_age, .inl (cy 2, 6, .inl v_age_e18)), (h0_riches, .inl (cy 2, 6, .inl v_riches_e18)), (h0_out, .inl (cy 2, 6, .inl v_out_e18)), (g1, .inr (2, [og1_0, .int w1_date, .int w1_drawSeed, .ref g1_age, .ref g1_riches, .ref g1_out])), (g1_age, .inl (cy 2, 6, .inl w1_age)), (g1_riches, .inl (cy 2, 6, .inl w1_riches)), (g1_out, .inl (cy 2, 6, .inl w1_out))] → va_S A s.heap H locs → lv_has ls 3 [] → W p l e r2_copyFrom s m args below meth c H locs 0 0 Q (F0 m 66 ls [])) → W p l e r2_copyFrom s m args below meth c H locs 0 0 Q (F0 m 18 ls []) := by
    intro n
    induction n with
    | zero =>
      intro x2_18 v_age_18 v_riches_18 v_out_18 v_age_e18 v_riches_e18 v_out_e18 H locs ls hM
      exact absurd hM (by simp [f2_copyFrom_L18])
    | succ n ih =>
      intro x2_18 v_age_18 v_riches_18 v_out_18 v_age_e18 v_riches_e18 v_out_e18 H locs ls hM hP hD hS hl K
      rw [f2_copyFrom_L18] at hM
      refine lv_iload_n hx hb dX2_copyFrom_18 rfl (lv_at hl 2 rfl) ?_
      refine lv_bipush (v := 6) hx hb dX2_copyFrom_19 (by decide) ?_
      refine lv_icmp_ge (tgt := 66) hx hb dX2_copyFrom_21 (by decide) (fun c21 => ?_) (fun c21 => ?_)
      · have hM := g_pos c21 hM
        obtain ⟨rfl, rfl, rfl⟩ := si3 hM
        exact K _ _ _ hP hD hS (lv_sub hl [] rfl)
      · have hM := g_neg c21 hM
        refine lv_aload_n hx hb dX2_copyFrom_24 rfl (lv_at hl 0 rfl) ?_
        refine va_get (D := D) (ci := 2) (v := .ref h0_age) (C := RX2) (T := TX2) (N := 6) hx hb hts iX2 hown hK hP 0 rfl rfl 3 (by decide) k9 (fun _ h9 => h9) rfl dX2_copyFrom_25 ?_
        refine lv_iload_n hx hb dX2_copyFrom_28 rfl (lv_at hl 2 rfl) ?_
        refine lv_aload_n hx hb dX2_copyFrom_29 rfl (lv_at hl 1 rfl) ?_
        refine va_get (D := D) (ci := 2) (v := .ref g1_age) (C := RX2) (T := TX2) (N := 6) hx hb hts iX2 hown hK hP 4 rfl rfl 3 (by decide) k9 (fun _ h9 => h9) rfl dX2_copyFrom_30 ?_
        refine lv_iload_n hx hb dX2_copyFrom_33 rfl (lv_at hl 2 rfl) ?_
        obtain ⟨h34, hM⟩ := gi_some hM
        refine va_iald hx hb hK hP 5 2 rfl rfl h34 dX2_copyFrom_34 ?_
        obtain ⟨h35, hM⟩ := gi_some hM
        refine va_iast hx hb hK hP hD hS 1 2 rfl rfl h35 dX2_copyFrom_35 (fun H locs hP hD hS => ?_)
        have hP : va_P D vwCl [(h0, .inr (2, [oh0_0, .int w1_date, .int w1_drawSeed, .ref h0_age, .ref h0_riches, .ref h0_out])), (h0_age, .inl (cy 2, 6, .inl (upd v_age_18 x2_18.toNatClampNeg (w1_age x2_18.toNatClampNeg)))), (h0_riches, .inl (cy 2, 6, .inl v_riches_18)), (h0_out, .inl (cy 2, 6, .inl v_out_18)), (g1, .inr (2, [og1_0, .int w1_date, .int w1_drawSeed, .ref g1_age, .ref g1_riches, .ref g1_out])), (g1_age, .inl (cy 2, 6, .inl w1_age)), (g1_riches, .inl (cy 2, 6, .inl w1_riches)), (g1_out, .inl (cy 2, 6, .inl w1_out))] H := hP
        have hD : va_D A [(h0, .inr (2, [oh0_0, .int w1_date, .int w1_drawSeed, .ref h0_age, .ref h0_riches, .ref h0_out])), (h0_age, .inl (cy 2, 6, .inl (upd v_age_18 x2_18.toNatClampNeg (w1_age x2_18.toNatClampNeg)))), (h0_riches, .inl (cy 2, 6, .inl v_riches_18)), (h0_out, .inl (cy 2, 6, .inl v_out_18)), (g1, .inr (2, [og1_0, .int w1_date, .int w1_drawSeed, .ref g1_age, .ref g1_riches, .ref g1_out])), (g1_age, .inl (cy 2, 6, .inl w1_age)), (g1_riches, .inl (cy 2, 6, .inl w1_riches)), (g1_out, .inl (cy 2, 6, .inl w1_out))] := hD
        refine lv_aload_n hx hb dX2_copyFrom_36 rfl (lv_at hl 0 rfl) ?_
        refine va_get (D := D) (ci := 2) (v := .ref h0_riches) (C := RX2) (T := TX2) (N := 6) hx hb hts iX2 hown hK hP 0 rfl rfl 4 (by decide) k15 (fun _ h9 => h9) rfl dX2_copyFrom_37 ?_
        refine lv_iload_n hx hb dX2_copyFrom_40 rfl (lv_at hl 2 rfl) ?_
        refine lv_aload_n hx hb dX2_copyFrom_41 rfl (lv_at hl 1 rfl) ?_
        refine va_get (D := D) (ci := 2) (v := .ref g1_riches) (C := RX2) (T := TX2) (N := 6) hx hb hts iX2 hown hK hP 4 rfl rfl 4 (by decide) k15 (fun _ h9 => h9) rfl dX2_copyFrom_42 ?_
        refine lv_iload_n hx hb dX2_copyFrom_45 rfl (lv_at hl 2 rfl) ?_
        obtain ⟨h46, hM⟩ := gi_some hM
        refine va_iald hx hb hK hP 6 2 rfl rfl h46 dX2_copyFrom_46 ?_
        obtain ⟨h47, hM⟩ := gi_some hM
        refine va_iast hx hb hK hP hD hS 2 2 rfl rfl h47 dX2_copyFrom_47 (fun H locs hP hD hS => ?_)
        have hP : va_P D vwCl [(h0, .inr (2, [oh0_0, .int w1_date, .int w1_drawSeed, .ref h0_age, .ref h0_riches, .ref h0_out])), (h0_age, .inl (cy 2, 6, .inl (upd v_age_18 x2_18.toNatClampNeg (w1_age x2_18.toNatClampNeg)))), (h0_riches, .inl (cy 2, 6, .inl (upd v_riches_18 x2_18.toNatClampNeg (w1_riches x2_18.toNatClampNeg)))), (h0_out, .inl (cy 2, 6, .inl v_out_18)), (g1, .inr (2, [og1_0, .int w1_date, .int w1_drawSeed, .ref g1_age, .ref g1_riches, .ref g1_out])), (g1_age, .inl (cy 2, 6, .inl w1_age)), (g1_riches, .inl (cy 2, 6, .inl w1_riches)), (g1_out, .inl (cy 2, 6, .inl w1_out))] H := hP
        have hD : va_D A [(h0, .inr (2, [oh0_0, .int w1_date, .int w1_drawSeed, .ref h0_age, .ref h0_riches, .ref h0_out])), (h0_age, .inl (cy 2, 6, .inl (upd v_age_18 x2_18.toNatClampNeg (w1_age x2_18.toNatClampNeg)))), (h0_riches, .inl (cy 2, 6, .inl (upd v_riches_18 x2_18.toNatClampNeg (w1_riches x2_18.toNatClampNeg)))), (h0_out, .inl (cy 2, 6, .inl v_out_18)), (g1, .inr (2, [og1_0, .int w1_date, .int w1_drawSeed, .ref g1_age, .ref g1_riches, .ref g1_out])), (g1_age, .inl (cy 2, 6, .inl w1_age)), (g1_riches, .inl (cy 2, 6, .inl w1_riches)), (g1_out, .inl (cy 2, 6, .inl w1_out))] := hD
        refine lv_aload_n hx hb dX2_copyFrom_48 rfl (lv_at hl 0 rfl) ?_
        refine va_get (D := D) (ci := 2) (v := .ref h0_out) (C := RX2) (T := TX2) (N := 6) hx hb hts iX2 hown hK hP 0 rfl rfl 5 (by decide) k18 (fun _ h9 => h9) rfl dX2_copyFrom_49 ?_
        refine lv_iload_n hx hb dX2_copyFrom_52 rfl (lv_at hl 2 rfl) ?_
        refine lv_aload_n hx hb dX2_copyFrom_53 rfl (lv_at hl 1 rfl) ?_
        refine va_get (D := D) (ci := 2) (v := .ref g1_out) (C := RX2) (T := TX2) (N := 6) hx hb hts iX2 hown hK hP 4 rfl rfl 5 (by decide) k18 (fun _ h9 => h9) rfl dX2_copyFrom_54 ?_
        refine lv_iload_n hx hb dX2_copyFrom_57 rfl (lv_at hl 2 rfl) ?_
        obtain ⟨h58, hM⟩ := gi_some hM
        refine va_iald hx hb hK hP 7 2 rfl rfl h58 dX2_copyFrom_58 ?_
        obtain ⟨h59, hM⟩ := gi_some hM
        refine va_iast hx hb hK hP hD hS 3 2 rfl rfl h59 dX2_copyFrom_59 (fun H locs hP hD hS => ?_)
        have hP : va_P D vwCl [(h0, .inr (2, [oh0_0, .int w1_date, .int w1_drawSeed, .ref h0_age, .ref h0_riches, .ref h0_out])), (h0_age, .inl (cy 2, 6, .inl (upd v_age_18 x2_18.toNatClampNeg (w1_age x2_18.toNatClampNeg)))), (h0_riches, .inl (cy 2, 6, .inl (upd v_riches_18 x2_18.toNatClampNeg (w1_riches x2_18.toNatClampNeg)))), (h0_out, .inl (cy 2, 6, .inl (upd v_out_18 x2_18.toNatClampNeg (w1_out x2_18.toNatClampNeg)))), (g1, .inr (2, [og1_0, .int w1_date, .int w1_drawSeed, .ref g1_age, .ref g1_riches, .ref g1_out])), (g1_age, .inl (cy 2, 6, .inl w1_age)), (g1_riches, .inl (cy 2, 6, .inl w1_riches)), (g1_out, .inl (cy 2, 6, .inl w1_out))] H := hP
        have hD : va_D A [(h0, .inr (2, [oh0_0, .int w1_date, .int w1_drawSeed, .ref h0_age, .ref h0_riches, .ref h0_out])), (h0_age, .inl (cy 2, 6, .inl (upd v_age_18 x2_18.toNatClampNeg (w1_age x2_18.toNatClampNeg)))), (h0_riches, .inl (cy 2, 6, .inl (upd v_riches_18 x2_18.toNatClampNeg (w1_riches x2_18.toNatClampNeg)))), (h0_out, .inl (cy 2, 6, .inl (upd v_out_18 x2_18.toNatClampNeg (w1_out x2_18.toNatClampNeg)))), (g1, .inr (2, [og1_0, .int w1_date, .int w1_drawSeed, .ref g1_age, .ref g1_riches, .ref g1_out])), (g1_age, .inl (cy 2, 6, .inl w1_age)), (g1_riches, .inl (cy 2, 6, .inl w1_riches)), (g1_out, .inl (cy 2, 6, .inl w1_out))] := hD
        refine lv_iinc (v := x2_18 + (1 : Int32)) (lv' := [(2, .int (x2_18 + (1 : Int32))), (0, .ref h0), (1, .ref g1)]) hx hb dX2_copyFrom_60 hl (k := 2) rfl rfl (by decide) rfl (fun ls hl => ?_)
        refine lv_goto (tgt := 18) hx hb dX2_copyFrom_63 (by decide) ?_
        exact ih (x2_18 + (1 : Int32)) (upd v_age_18 x2_18.toNatClampNeg (w1_age x2_18.toNatClampNeg)) (upd v_riches_18 x2_18.toNatClampNeg (w1_riches x2_18.toNatClampNeg)) (upd v_out_18 x2_18.toNatClampNeg (w1_out x2_18.toNatClampNeg)) v_age_e18 v_riches_e18 v_out_e18 _ _ _ hM hP hD hS (lv_sub hl [1, 2, 0] rfl) K
  obtain ⟨v_age_e18, v_riches_e18, v_out_e18, hL18, hM⟩ := ob3_some hM
  refine L18 N (0 : Int32) v_age v_riches v_out v_age_e18 v_riches_e18 v_out_e18 _ _ _ hL18 hP hD hS (lv_sub hl [1, 2, 0] rfl) ?_
  intro H locs ls hP hD hS hl
  obtain ⟨rfl, rfl, rfl, rfl, rfl⟩ := si5 hM
  exact hret _ _ _ _ dX2_copyFrom_66 hP hD hS

-- ===== X2_startIn startIn (LCaveYears$Cave;)V =====
abbrev r2_startIn : Room := { frames := 0, cells := 0, slots := 0, locals := 0 }
def f2_startIn_L7 (N : Nat) (w1_firstAge : Nat → Int32) (w1_firstRiches : Nat → Int32) : Nat → Int32 → (Nat → Int32) → (Nat → Int32) → (Nat → Int32) → Option ((Nat → Int32) × (Nat → Int32) × (Nat → Int32))
  | 0, _, _, _, _ => none
  | n + 1, x2_7, v_age_7, v_riches_7, v_out_7 => if (6 : Int32) ≤ x2_7 then (some (v_age_7, v_riches_7, v_out_7)) else (gi x2_7 6 (gi x2_7 6 (gi x2_7 6 (gi x2_7 6 (gi x2_7 6 ((f2_startIn_L7 N w1_firstAge w1_firstRiches n) (x2_7 + (1 : Int32)) (upd v_age_7 x2_7.toNatClampNeg (w1_firstAge x2_7.toNatClampNeg)) (upd v_riches_7 x2_7.toNatClampNeg (w1_firstRiches x2_7.toNatClampNeg)) (upd v_out_7 x2_7.toNatClampNeg (-1 : Int32))))))))
def f2_startIn (N : Nat) (v_date : Int32) (v_age : Nat → Int32) (v_riches : Nat → Int32) (v_out : Nat → Int32) (w1_firstAge : Nat → Int32) (w1_firstRiches : Nat → Int32) : Option (Int32 × (Nat → Int32) × (Nat → Int32) × (Nat → Int32)) :=
  ob3 (f2_startIn_L7 N w1_firstAge w1_firstRiches N (0 : Int32) v_age v_riches v_out) fun v_age_e7 v_riches_e7 v_out_e7 => some ((0 : Int32), v_age_e7, v_riches_e7, v_out_e7)
set_option maxHeartbeats 4000000 in
set_option maxRecDepth 100000 in
theorem c2_startIn (l : Launch) (D : va_G) (cy : Nat → ClassId) (N : Nat) (h0 h0_age h0_riches h0_out g1 g1_firstAge g1_firstRiches : Nat) (oh0_0 oh0_2 og1_0 og1_1 og1_2 og1_3 og1_4 og1_5 og1_6 og1_7 og1_8 og1_11 og1_12 : Value) (v_date : Int32) (v_age : Nat → Int32) (v_riches : Nat → Int32) (v_out : Nat → Int32) (w1_firstAge : Nat → Int32) (w1_firstRiches : Nat → Int32) (nv_date : Int32) (nv_age : Nat → Int32) (nv_riches : Nat → Int32) (nv_out : Nat → Int32) (hM : f2_startIn N v_date v_age v_riches v_out w1_firstAge w1_firstRiches = some (nv_date, nv_age, nv_riches, nv_out)) (sz : Nat) : CTv l yX2_startIn wsX2_startIn r2_startIn [.ref h0, .ref g1] D cy sz [(h0, .inr (2, [oh0_0, .int v_date, oh0_2, .ref h0_age, .ref h0_riches, .ref h0_out])), (h0_age, .inl (cy 2, 6, .inl v_age)), (h0_riches, .inl (cy 2, 6, .inl v_riches)), (h0_out, .inl (cy 2, 6, .inl v_out)), (g1, .inr (0, [og1_0, og1_1, og1_2, og1_3, og1_4, og1_5, og1_6, og1_7, og1_8, .ref g1_firstAge, .ref g1_firstRiches, og1_11, og1_12])), (g1_firstAge, .inl (cy 2, 6, .inl w1_firstAge)), (g1_firstRiches, .inl (cy 2, 6, .inl w1_firstRiches))] [(h0, .inr (2, [oh0_0, .int nv_date, oh0_2, .ref h0_age, .ref h0_riches, .ref h0_out])), (h0_age, .inl (cy 2, 6, .inl nv_age)), (h0_riches, .inl (cy 2, 6, .inl nv_riches)), (h0_out, .inl (cy 2, 6, .inl nv_out)), (g1, .inr (0, [og1_0, og1_1, og1_2, og1_3, og1_4, og1_5, og1_6, og1_7, og1_8, .ref g1_firstAge, .ref g1_firstRiches, og1_11, og1_12])), (g1_firstAge, .inl (cy 2, 6, .inl w1_firstAge)), (g1_firstRiches, .inl (cy 2, 6, .inl w1_firstRiches))] := by
  unfold f2_startIn at hM
  refine ct_ov (cc := cX2_startIn) (maxL := 3)  (by decide +kernel) rfl (Nat.le_of_ble_eq_true rfl) (lv0 := [(0, .ref h0), (1, .ref g1)]) rfl ?_
  intro p e s m args below meth c A Q ls hx hb hts hown hml hK hP hD hS hA hret hl
  have hown : s.vm.findClass RX2 = some m.cls := hown
  have k21 := hts (.fieldLink RX2 21 "CaveYears$Folk" "date" "I") (List.mem_of_getElem? (i := 1) rfl)
  have iX2 := (fun w h => (List.mem_cons_of_mem _ (List.mem_append_left _ (List.mem_append_right _ h))) : ∀ w ∈ wsX20, w ∈ wsX2_startIn)
  have k9 := hts (.fieldLink RX2 9 "CaveYears$Folk" "age" "[I") (List.mem_of_getElem? (i := 2) rfl)
  have k25 := hts (.fieldLink RX2 25 "CaveYears$Cave" "firstAge" "[I") (List.mem_of_getElem? (i := 3) rfl)
  have iX0 := (fun w h => (List.mem_cons_of_mem _ (List.mem_append_right _ h)) : ∀ w ∈ wsX00, w ∈ wsX2_startIn)
  have k15 := hts (.fieldLink RX2 15 "CaveYears$Folk" "riches" "[I") (List.mem_of_getElem? (i := 4) rfl)
  have k30 := hts (.fieldLink RX2 30 "CaveYears$Cave" "firstRiches" "[I") (List.mem_of_getElem? (i := 5) rfl)
  have k18 := hts (.fieldLink RX2 18 "CaveYears$Folk" "out" "[I") (List.mem_of_getElem? (i := 6) rfl)
  refine lv_aload_n hx hb dX2_startIn_0 rfl (lv_at hl 0 rfl) ?_
  refine lv_iconst (v := 0) hx hb dX2_startIn_1 (by decide) ?_
  refine va_put (D := D) (ci := 2) (v := .int (0 : Int32)) (ty := .int) (C := RX2) (T := TX2) (N := 6) hx hb hts iX2 tyX2 tyX2_ok nmX2 hown hK hP hD hS 0 rfl rfl 1 (by decide) k21 (fun _ h9 => h9) rfl (by decide +kernel) rfl rfl (Nat.le_of_ble_eq_true rfl) dX2_startIn_2 (fun H locs hP hD hS => ?_)
  have hP : va_P D vwCl [(h0, .inr (2, [oh0_0, .int (0 : Int32), oh0_2, .ref h0_age, .ref h0_riches, .ref h0_out])), (h0_age, .inl (cy 2, 6, .inl v_age)), (h0_riches, .inl (cy 2, 6, .inl v_riches)), (h0_out, .inl (cy 2, 6, .inl v_out)), (g1, .inr (0, [og1_0, og1_1, og1_2, og1_3, og1_4, og1_5, og1_6, og1_7, og1_8, .ref g1_firstAge, .ref g1_firstRiches, og1_11, og1_12])), (g1_firstAge, .inl (cy 2, 6, .inl w1_firstAge)), (g1_firstRiches, .inl (cy 2, 6, .inl w1_firstRiches))] H := hP
  have hD : va_D A [(h0, .inr (2, [oh0_0, .int (0 : Int32), oh0_2, .ref h0_age, .ref h0_riches, .ref h0_out])), (h0_age, .inl (cy 2, 6, .inl v_age)), (h0_riches, .inl (cy 2, 6, .inl v_riches)), (h0_out, .inl (cy 2, 6, .inl v_out)), (g1, .inr (0, [og1_0, og1_1, og1_2, og1_3, og1_4, og1_5, og1_6, og1_7, og1_8, .ref g1_firstAge, .ref g1_firstRiches, og1_11, og1_12])), (g1_firstAge, .inl (cy 2, 6, .inl w1_firstAge)), (g1_firstRiches, .inl (cy 2, 6, .inl w1_firstRiches))] := hD
  refine lv_iconst (v := 0) hx hb dX2_startIn_5 (by decide) ?_
  refine lv_istore_n (lv' := [(2, .int (0 : Int32)), (0, .ref h0), (1, .ref g1)]) hx hb dX2_startIn_6 rfl hl (by decide) rfl (fun ls hl => ?_)
  have L7 : ∀ (n : Nat) (x2_7 : Int32) (v_age_7 : Nat → Int32) (v_riches_7 : Nat → Int32) (v_out_7 : Nat → Int32) (v_age_e7 : Nat → Int32) (v_riches_e7 : Nat → Int32) (v_out_e7 : Nat → Int32) (H : Heap) (locs : List Loc) (ls : Array Slot), f2_startIn_L7 N w1_firstAge w1_firstRiches n x2_7 v_age_7 v_riches_7 v_out_7 = some (v_age_e7, v_riches_e7, v_out_e7) → va_P D vwCl [(h0, .inr (2, [oh0_0, .int (0 : Int32), oh0_2, .ref h0_age, .ref h0_riches, .ref h0_out])), (h0_age, .inl (cy 2, 6, .inl v_age_7)), (h0_riches, .inl (cy 2, 6, .inl v_riches_7)), (h0_out, .inl (cy 2, 6, .inl v_out_7)), (g1, .inr (0, [og1_0, og1_1, og1_2, og1_3, og1_4, og1_5, og1_6, og1_7, og1_8, .ref g1_firstAge, .ref g1_firstRiches, og1_11, og1_12])), (g1_firstAge, .inl (cy 2, 6, .inl w1_firstAge)), (g1_firstRiches, .inl (cy 2, 6, .inl w1_firstRiches))] H → va_D A [(h0, .inr (2, [oh0_0, .int (0 : Int32), oh0_2, .ref h0_age, .ref h0_riches, .ref h0_out])), (h0_age, .inl (cy 2, 6, .inl v_age_7)), (h0_riches, .inl (cy 2, 6, .inl v_riches_7)), (h0_out, .inl (cy 2, 6, .inl v_out_7)), (g1, .inr (0, [og1_0, og1_1, og1_2, og1_3, og1_4, og1_5, og1_6, og1_7, og1_8, .ref g1_firstAge, .ref g1_firstRiches, og1_11, og1_12])), (g1_firstAge, .inl (cy 2, 6, .inl w1_firstAge)), (g1_firstRiches, .inl (cy 2, 6, .inl w1_firstRiches))] → va_S A s.heap H locs → lv_has ls 3 [(0, .ref h0), (1, .ref g1), (2, .int x2_7)] → (∀ (H : Heap) (locs : List Loc) (ls : Array Slot), va_P D vwCl [(h0, .inr (2, [oh0_0, .int (0 : Int32), oh0_2, .ref h0_age, .ref h0_riches, .ref h0_out])), (h0_age, .inl (cy 2, 6, .inl v_age_e7)), (h0_riches, .inl (cy 2, 6, .inl v_riches_e7)), (h0_out, .inl (cy 2, 6, .inl v_out_e7)), (g1, .inr (0, [og1_0, og1_1, og1_2, og1_3, og1_4, og1_5, og1_6, og1_7, og1_8, .ref g1_firstAge, .ref g1_firstRiches, og1_11, og1_12])), (g1_firstAge, .inl (cy 2, 6, .inl w1_firstAge)), (g1_firstRiches, .inl (cy 2, 6, .inl w1_firstRiches))] H → va_D A [(h0, .inr (2, [oh0_0, .int (0 : Int32), oh0_2, .ref h0_age, .ref h0_riches, .ref h0_out])), (h0_age, .inl (cy 2, 6, .inl v_age_e7)), (h0_riches, .inl (cy 2, 6, .inl v_riches_e7)), (h0_out, .inl (cy 2, 6, .inl v_out_e7)), (g1, .inr (0, [og1_0, og1_1, og1_2, og1_3, og1_4, og1_5, og1_6, og1_7, og1_8, .ref g1_firstAge, .ref g1_firstRiches, og1_11, og1_12])), (g1_firstAge, .inl (cy 2, 6, .inl w1_firstAge)), (g1_firstRiches, .inl (cy 2, 6, .inl w1_firstRiches))] → va_S A s.heap H locs → lv_has ls 3 [] → W p l e r2_startIn s m args below meth c H locs 0 0 Q (F0 m 50 ls [])) → W p l e r2_startIn s m args below meth c H locs 0 0 Q (F0 m 7 ls []) := by
    intro n
    induction n with
    | zero =>
      intro x2_7 v_age_7 v_riches_7 v_out_7 v_age_e7 v_riches_e7 v_out_e7 H locs ls hM
      exact absurd hM (by simp [f2_startIn_L7])
    | succ n ih =>
      intro x2_7 v_age_7 v_riches_7 v_out_7 v_age_e7 v_riches_e7 v_out_e7 H locs ls hM hP hD hS hl K
      rw [f2_startIn_L7] at hM
      refine lv_iload_n hx hb dX2_startIn_7 rfl (lv_at hl 2 rfl) ?_
      refine lv_bipush (v := 6) hx hb dX2_startIn_8 (by decide) ?_
      refine lv_icmp_ge (tgt := 50) hx hb dX2_startIn_10 (by decide) (fun c10 => ?_) (fun c10 => ?_)
      · have hM := g_pos c10 hM
        obtain ⟨rfl, rfl, rfl⟩ := si3 hM
        exact K _ _ _ hP hD hS (lv_sub hl [] rfl)
      · have hM := g_neg c10 hM
        refine lv_aload_n hx hb dX2_startIn_13 rfl (lv_at hl 0 rfl) ?_
        refine va_get (D := D) (ci := 2) (v := .ref h0_age) (C := RX2) (T := TX2) (N := 6) hx hb hts iX2 hown hK hP 0 rfl rfl 3 (by decide) k9 (fun _ h9 => h9) rfl dX2_startIn_14 ?_
        refine lv_iload_n hx hb dX2_startIn_17 rfl (lv_at hl 2 rfl) ?_
        refine lv_aload_n hx hb dX2_startIn_18 rfl (lv_at hl 1 rfl) ?_
        refine va_get (D := D) (ci := 0) (v := .ref g1_firstAge) (C := RX0) (T := TX0) (N := 13) hx hb hts iX0 hown hK hP 4 rfl rfl 9 (by decide) k25 (fun _ h9 => h9) rfl dX2_startIn_19 ?_
        refine lv_iload_n hx hb dX2_startIn_22 rfl (lv_at hl 2 rfl) ?_
        obtain ⟨h23, hM⟩ := gi_some hM
        refine va_iald hx hb hK hP 5 2 rfl rfl h23 dX2_startIn_23 ?_
        obtain ⟨h24, hM⟩ := gi_some hM
        refine va_iast hx hb hK hP hD hS 1 2 rfl rfl h24 dX2_startIn_24 (fun H locs hP hD hS => ?_)
        have hP : va_P D vwCl [(h0, .inr (2, [oh0_0, .int (0 : Int32), oh0_2, .ref h0_age, .ref h0_riches, .ref h0_out])), (h0_age, .inl (cy 2, 6, .inl (upd v_age_7 x2_7.toNatClampNeg (w1_firstAge x2_7.toNatClampNeg)))), (h0_riches, .inl (cy 2, 6, .inl v_riches_7)), (h0_out, .inl (cy 2, 6, .inl v_out_7)), (g1, .inr (0, [og1_0, og1_1, og1_2, og1_3, og1_4, og1_5, og1_6, og1_7, og1_8, .ref g1_firstAge, .ref g1_firstRiches, og1_11, og1_12])), (g1_firstAge, .inl (cy 2, 6, .inl w1_firstAge)), (g1_firstRiches, .inl (cy 2, 6, .inl w1_firstRiches))] H := hP
        have hD : va_D A [(h0, .inr (2, [oh0_0, .int (0 : Int32), oh0_2, .ref h0_age, .ref h0_riches, .ref h0_out])), (h0_age, .inl (cy 2, 6, .inl (upd v_age_7 x2_7.toNatClampNeg (w1_firstAge x2_7.toNatClampNeg)))), (h0_riches, .inl (cy 2, 6, .inl v_riches_7)), (h0_out, .inl (cy 2, 6, .inl v_out_7)), (g1, .inr (0, [og1_0, og1_1, og1_2, og1_3, og1_4, og1_5, og1_6, og1_7, og1_8, .ref g1_firstAge, .ref g1_firstRiches, og1_11, og1_12])), (g1_firstAge, .inl (cy 2, 6, .inl w1_firstAge)), (g1_firstRiches, .inl (cy 2, 6, .inl w1_firstRiches))] := hD
        refine lv_aload_n hx hb dX2_startIn_25 rfl (lv_at hl 0 rfl) ?_
        refine va_get (D := D) (ci := 2) (v := .ref h0_riches) (C := RX2) (T := TX2) (N := 6) hx hb hts iX2 hown hK hP 0 rfl rfl 4 (by decide) k15 (fun _ h9 => h9) rfl dX2_startIn_26 ?_
        refine lv_iload_n hx hb dX2_startIn_29 rfl (lv_at hl 2 rfl) ?_
        refine lv_aload_n hx hb dX2_startIn_30 rfl (lv_at hl 1 rfl) ?_
        refine va_get (D := D) (ci := 0) (v := .ref g1_firstRiches) (C := RX0) (T := TX0) (N := 13) hx hb hts iX0 hown hK hP 4 rfl rfl 10 (by decide) k30 (fun _ h9 => h9) rfl dX2_startIn_31 ?_
        refine lv_iload_n hx hb dX2_startIn_34 rfl (lv_at hl 2 rfl) ?_
        obtain ⟨h35, hM⟩ := gi_some hM
        refine va_iald hx hb hK hP 6 2 rfl rfl h35 dX2_startIn_35 ?_
        obtain ⟨h36, hM⟩ := gi_some hM
        refine va_iast hx hb hK hP hD hS 2 2 rfl rfl h36 dX2_startIn_36 (fun H locs hP hD hS => ?_)
        have hP : va_P D vwCl [(h0, .inr (2, [oh0_0, .int (0 : Int32), oh0_2, .ref h0_age, .ref h0_riches, .ref h0_out])), (h0_age, .inl (cy 2, 6, .inl (upd v_age_7 x2_7.toNatClampNeg (w1_firstAge x2_7.toNatClampNeg)))), (h0_riches, .inl (cy 2, 6, .inl (upd v_riches_7 x2_7.toNatClampNeg (w1_firstRiches x2_7.toNatClampNeg)))), (h0_out, .inl (cy 2, 6, .inl v_out_7)), (g1, .inr (0, [og1_0, og1_1, og1_2, og1_3, og1_4, og1_5, og1_6, og1_7, og1_8, .ref g1_firstAge, .ref g1_firstRiches, og1_11, og1_12])), (g1_firstAge, .inl (cy 2, 6, .inl w1_firstAge)), (g1_firstRiches, .inl (cy 2, 6, .inl w1_firstRiches))] H := hP
        have hD : va_D A [(h0, .inr (2, [oh0_0, .int (0 : Int32), oh0_2, .ref h0_age, .ref h0_riches, .ref h0_out])), (h0_age, .inl (cy 2, 6, .inl (upd v_age_7 x2_7.toNatClampNeg (w1_firstAge x2_7.toNatClampNeg)))), (h0_riches, .inl (cy 2, 6, .inl (upd v_riches_7 x2_7.toNatClampNeg (w1_firstRiches x2_7.toNatClampNeg)))), (h0_out, .inl (cy 2, 6, .inl v_out_7)), (g1, .inr (0, [og1_0, og1_1, og1_2, og1_3, og1_4, og1_5, og1_6, og1_7, og1_8, .ref g1_firstAge, .ref g1_firstRiches, og1_11, og1_12])), (g1_firstAge, .inl (cy 2, 6, .inl w1_firstAge)), (g1_firstRiches, .inl (cy 2, 6, .inl w1_firstRiches))] := hD
        refine lv_aload_n hx hb dX2_startIn_37 rfl (lv_at hl 0 rfl) ?_
        refine va_get (D := D) (ci := 2) (v := .ref h0_out) (C := RX2) (T := TX2) (N := 6) hx hb hts iX2 hown hK hP 0 rfl rfl 5 (by decide) k18 (fun _ h9 => h9) rfl dX2_startIn_38 ?_
        refine lv_iload_n hx hb dX2_startIn_41 rfl (lv_at hl 2 rfl) ?_
        refine lv_iconst (v := -1) hx hb dX2_startIn_42 (by decide) ?_
        obtain ⟨h43, hM⟩ := gi_some hM
        refine va_iast hx hb hK hP hD hS 3 2 rfl rfl h43 dX2_startIn_43 (fun H locs hP hD hS => ?_)
        have hP : va_P D vwCl [(h0, .inr (2, [oh0_0, .int (0 : Int32), oh0_2, .ref h0_age, .ref h0_riches, .ref h0_out])), (h0_age, .inl (cy 2, 6, .inl (upd v_age_7 x2_7.toNatClampNeg (w1_firstAge x2_7.toNatClampNeg)))), (h0_riches, .inl (cy 2, 6, .inl (upd v_riches_7 x2_7.toNatClampNeg (w1_firstRiches x2_7.toNatClampNeg)))), (h0_out, .inl (cy 2, 6, .inl (upd v_out_7 x2_7.toNatClampNeg (-1 : Int32)))), (g1, .inr (0, [og1_0, og1_1, og1_2, og1_3, og1_4, og1_5, og1_6, og1_7, og1_8, .ref g1_firstAge, .ref g1_firstRiches, og1_11, og1_12])), (g1_firstAge, .inl (cy 2, 6, .inl w1_firstAge)), (g1_firstRiches, .inl (cy 2, 6, .inl w1_firstRiches))] H := hP
        have hD : va_D A [(h0, .inr (2, [oh0_0, .int (0 : Int32), oh0_2, .ref h0_age, .ref h0_riches, .ref h0_out])), (h0_age, .inl (cy 2, 6, .inl (upd v_age_7 x2_7.toNatClampNeg (w1_firstAge x2_7.toNatClampNeg)))), (h0_riches, .inl (cy 2, 6, .inl (upd v_riches_7 x2_7.toNatClampNeg (w1_firstRiches x2_7.toNatClampNeg)))), (h0_out, .inl (cy 2, 6, .inl (upd v_out_7 x2_7.toNatClampNeg (-1 : Int32)))), (g1, .inr (0, [og1_0, og1_1, og1_2, og1_3, og1_4, og1_5, og1_6, og1_7, og1_8, .ref g1_firstAge, .ref g1_firstRiches, og1_11, og1_12])), (g1_firstAge, .inl (cy 2, 6, .inl w1_firstAge)), (g1_firstRiches, .inl (cy 2, 6, .inl w1_firstRiches))] := hD
        refine lv_iinc (v := x2_7 + (1 : Int32)) (lv' := [(2, .int (x2_7 + (1 : Int32))), (0, .ref h0), (1, .ref g1)]) hx hb dX2_startIn_44 hl (k := 2) rfl rfl (by decide) rfl (fun ls hl => ?_)
        refine lv_goto (tgt := 7) hx hb dX2_startIn_47 (by decide) ?_
        exact ih (x2_7 + (1 : Int32)) (upd v_age_7 x2_7.toNatClampNeg (w1_firstAge x2_7.toNatClampNeg)) (upd v_riches_7 x2_7.toNatClampNeg (w1_firstRiches x2_7.toNatClampNeg)) (upd v_out_7 x2_7.toNatClampNeg (-1 : Int32)) v_age_e7 v_riches_e7 v_out_e7 _ _ _ hM hP hD hS (lv_sub hl [1, 2, 0] rfl) K
  obtain ⟨v_age_e7, v_riches_e7, v_out_e7, hL7, hM⟩ := ob3_some hM
  refine L7 N (0 : Int32) v_age v_riches v_out v_age_e7 v_riches_e7 v_out_e7 _ _ _ hL7 hP hD hS (lv_sub hl [1, 2, 0] rfl) ?_
  intro H locs ls hP hD hS hl
  obtain ⟨rfl, rfl, rfl, rfl⟩ := si4 hM
  exact hret _ _ _ _ dX2_startIn_50 hP hD hS
