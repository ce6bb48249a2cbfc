-- ===== X9_manyIn manyIn (I)I =====
abbrev r9_manyIn : Room := { frames := 0, cells := 0, slots := 0, locals := 0 }
def f9_manyIn_L4 (N : Nat) (p1 : Int32) (v_man : Nat → Int32) : Nat → Int32 → Int32 → Option Int32
  | 0, _, _ => none
  | n + 1, x2_4, x3_4 => if p1 ≤ x3_4 then (some x2_4) else (gi x3_4 8 (if ((v_man x3_4.toNatClampNeg) + (1 : Int32)) ≤ x2_4 then ((f9_manyIn_L4 N p1 v_man n) x2_4 (x3_4 + (1 : Int32))) else (gi x3_4 8 ((f9_manyIn_L4 N p1 v_man n) ((v_man x3_4.toNatClampNeg) + (1 : Int32)) (x3_4 + (1 : Int32))))))
def f9_manyIn (N : Nat) (p1 : Int32) (v_man : Nat → Int32) : Option Int32 :=
  ob1 (f9_manyIn_L4 N p1 v_man N (0 : Int32) (0 : Int32)) fun e2_4 => some e2_4
set_option maxHeartbeats 4000000 in
set_option maxRecDepth 100000 in
theorem c9_manyIn (l : Launch) (D : va_G) (cy : Nat → ClassId) (N : Nat) (h0 h0_man : Nat) (oh0_0 oh0_1 oh0_2 oh0_3 oh0_4 oh0_5 oh0_6 oh0_7 oh0_8 oh0_9 oh0_10 oh0_11 oh0_12 oh0_13 oh0_14 oh0_15 oh0_16 oh0_17 oh0_18 oh0_19 oh0_20 oh0_21 oh0_22 oh0_23 oh0_24 oh0_25 oh0_26 oh0_27 oh0_28 oh0_29 oh0_30 oh0_31 oh0_32 oh0_33 oh0_34 oh0_35 oh0_37 : Value) (p1 : Int32) (v_man : Nat → Int32) (r : Int32) (hM : f9_manyIn N p1 v_man = some r) (sz : Nat) : CTi l yX9_manyIn wsX9_manyIn r9_manyIn [.ref h0, .int p1] D cy sz [(h0, .inr (9, [oh0_0, oh0_1, oh0_2, oh0_3, oh0_4, oh0_5, oh0_6, oh0_7, oh0_8, oh0_9, oh0_10, oh0_11, oh0_12, oh0_13, oh0_14, oh0_15, oh0_16, oh0_17, oh0_18, oh0_19, oh0_20, oh0_21, oh0_22, oh0_23, oh0_24, oh0_25, oh0_26, oh0_27, oh0_28, oh0_29, oh0_30, oh0_31, oh0_32, oh0_33, oh0_34, oh0_35, .ref h0_man, oh0_37])), (h0_man, .inl (cy 2, 8, .inl v_man))] [(h0, .inr (9, [oh0_0, oh0_1, oh0_2, oh0_3, oh0_4, oh0_5, oh0_6, oh0_7, oh0_8, oh0_9, oh0_10, oh0_11, oh0_12, oh0_13, oh0_14, oh0_15, oh0_16, oh0_17, oh0_18, oh0_19, oh0_20, oh0_21, oh0_22, oh0_23, oh0_24, oh0_25, oh0_26, oh0_27, oh0_28, oh0_29, oh0_30, oh0_31, oh0_32, oh0_33, oh0_34, oh0_35, .ref h0_man, oh0_37])), (h0_man, .inl (cy 2, 8, .inl v_man))] r := by
  unfold f9_manyIn at hM
  refine ct_oi (cc := cX9_manyIn) (maxL := 4) (ty := .int) (by decide +kernel) rfl (Nat.le_of_ble_eq_true rfl) (lv0 := [(0, .ref h0), (1, .int p1)]) rfl ?_
  intro p e s m args below meth c A Q ls hx hb hts hown hml hK hP hD hS hA hret hl
  have hown : s.vm.findClass RX9 = some m.cls := hown
  have k85 := hts (.fieldLink RX9 85 "CaveYearsModel" "man" "[I") (List.mem_of_getElem? (i := 1) (by decide +kernel))
  have iX9 := (fun w h => (List.mem_cons_of_mem _ (List.mem_append_right _ h)) : ∀ w ∈ wsX90, w ∈ wsX9_manyIn)
  refine lv_iconst (v := 0) hx hb dX9_manyIn_0 (by decide) ?_
  refine lv_istore_n (lv' := [(2, .int (0 : Int32)), (0, .ref h0), (1, .int p1)]) hx hb dX9_manyIn_1 rfl hl (by decide) rfl (fun ls hl => ?_)
  refine lv_iconst (v := 0) hx hb dX9_manyIn_2 (by decide) ?_
  refine lv_istore_n (lv' := [(3, .int (0 : Int32)), (2, .int (0 : Int32)), (0, .ref h0), (1, .int p1)]) hx hb dX9_manyIn_3 rfl hl (by decide) rfl (fun ls hl => ?_)
  have L4 : ∀ (n : Nat) (x2_4 : Int32) (x3_4 : Int32) (e2_4 : Int32) (H : Heap) (locs : List Loc) (ls : Array Slot), f9_manyIn_L4 N p1 v_man n x2_4 x3_4 = some e2_4 → va_P D vwCl [(h0, .inr (9, [oh0_0, oh0_1, oh0_2, oh0_3, oh0_4, oh0_5, oh0_6, oh0_7, oh0_8, oh0_9, oh0_10, oh0_11, oh0_12, oh0_13, oh0_14, oh0_15, oh0_16, oh0_17, oh0_18, oh0_19, oh0_20, oh0_21, oh0_22, oh0_23, oh0_24, oh0_25, oh0_26, oh0_27, oh0_28, oh0_29, oh0_30, oh0_31, oh0_32, oh0_33, oh0_34, oh0_35, .ref h0_man, oh0_37])), (h0_man, .inl (cy 2, 8, .inl v_man))] H → va_D A [(h0, .inr (9, [oh0_0, oh0_1, oh0_2, oh0_3, oh0_4, oh0_5, oh0_6, oh0_7, oh0_8, oh0_9, oh0_10, oh0_11, oh0_12, oh0_13, oh0_14, oh0_15, oh0_16, oh0_17, oh0_18, oh0_19, oh0_20, oh0_21, oh0_22, oh0_23, oh0_24, oh0_25, oh0_26, oh0_27, oh0_28, oh0_29, oh0_30, oh0_31, oh0_32, oh0_33, oh0_34, oh0_35, .ref h0_man, oh0_37])), (h0_man, .inl (cy 2, 8, .inl v_man))] → va_S A s.heap H locs → lv_has ls 4 [(0, .ref h0), (1, .int p1), (2, .int x2_4), (3, .int x3_4)] → (∀ (H : Heap) (locs : List Loc) (ls : Array Slot), va_P D vwCl [(h0, .inr (9, [oh0_0, oh0_1, oh0_2, oh0_3, oh0_4, oh0_5, oh0_6, oh0_7, oh0_8, oh0_9, oh0_10, oh0_11, oh0_12, oh0_13, oh0_14, oh0_15, oh0_16, oh0_17, oh0_18, oh0_19, oh0_20, oh0_21, oh0_22, oh0_23, oh0_24, oh0_25, oh0_26, oh0_27, oh0_28, oh0_29, oh0_30, oh0_31, oh0_32, oh0_33, oh0_34, oh0_35, .ref h0_man, oh0_37])), (h0_man, .inl (cy 2, 8, .inl v_man))] H → va_D A [(h0, .inr (9, [oh0_0, oh0_1, oh0_2, oh0_3, oh0_4, oh0_5, oh0_6, oh0_7, oh0_8, oh0_9, oh0_10, oh0_11, oh0_12, oh0_13, oh0_14, oh0_15, oh0_16, oh0_17, oh0_18, oh0_19, oh0_20, oh0_21, oh0_22, oh0_23, oh0_24, oh0_25, oh0_26, oh0_27, oh0_28, oh0_29, oh0_30, oh0_31, oh0_32, oh0_33, oh0_34, oh0_35, .ref h0_man, oh0_37])), (h0_man, .inl (cy 2, 8, .inl v_man))] → va_S A s.heap H locs → lv_has ls 4 [(2, .int e2_4)] → W p l e r9_manyIn s m args below meth c H locs 0 0 Q (F0 m 40 ls [])) → W p l e r9_manyIn s m args below meth c H locs 0 0 Q (F0 m 4 ls []) := by
    intro n4
    induction n4 with
    | zero =>
      intro x2_4 x3_4 e2_4 H locs ls hM
      exact absurd hM (by simp [f9_manyIn_L4])
    | succ n4 ih4 =>
      intro x2_4 x3_4 e2_4 H locs ls hM hP hD hS hl K
      rw [f9_manyIn_L4] at hM
      refine lv_iload_n hx hb dX9_manyIn_4 rfl (lv_at hl 3 rfl) ?_
      refine lv_iload_n hx hb dX9_manyIn_5 rfl (lv_at hl 1 rfl) ?_
      refine lv_icmp_ge (tgt := 40) hx hb dX9_manyIn_6 (by decide) (fun c6 => ?_) (fun c6 => ?_)
      · have hM := g_pos c6 hM
        obtain rfl := si1 hM
        exact K _ _ _ hP hD hS (lv_sub hl [2] rfl)
      · have hM := g_neg c6 hM
        refine lv_aload_n hx hb dX9_manyIn_9 rfl (lv_at hl 0 rfl) ?_
        refine va_get (D := D) (ci := 9) (v := .ref h0_man) (C := RX9) (T := TX9) (N := 38) hx hb hts iX9 hown hK hP 0 rfl rfl 36 (by decide) k85 (fun _ h9 => h9) rfl dX9_manyIn_10 ?_
        refine lv_iload_n hx hb dX9_manyIn_13 rfl (lv_at hl 3 rfl) ?_
        obtain ⟨h14, hM⟩ := gi_some hM
        refine va_iald hx hb hK hP 1 2 rfl rfl h14 dX9_manyIn_14 ?_
        refine lv_iconst (v := 1) hx hb dX9_manyIn_15 (by decide) ?_
        refine lv_iadd hx hb dX9_manyIn_16 ?_
        refine lv_iload_n hx hb dX9_manyIn_17 rfl (lv_at hl 2 rfl) ?_
        refine lv_icmp_le (tgt := 32) hx hb dX9_manyIn_18 (by decide) (fun c18 => ?_) (fun c18 => ?_)
        · have hM := g_pos c18 hM
          refine lv_iload_n hx hb dX9_manyIn_32 rfl (lv_at hl 2 rfl) ?_
          refine lv_istore_n (lv' := [(2, .int x2_4), (0, .ref h0), (1, .int p1), (3, .int x3_4)]) hx hb dX9_manyIn_33 rfl hl (by decide) rfl (fun ls hl => ?_)
          refine lv_iinc (v := x3_4 + (1 : Int32)) (lv' := [(3, .int (x3_4 + (1 : Int32))), (2, .int x2_4), (0, .ref h0), (1, .int p1)]) hx hb dX9_manyIn_34 hl (k := 3) rfl rfl (by decide) rfl (fun ls hl => ?_)
          refine lv_goto (tgt := 4) hx hb dX9_manyIn_37 (by decide) ?_
          exact ih4 x2_4 (x3_4 + (1 : Int32)) e2_4 _ _ _ hM hP hD hS (lv_sub hl [2, 3, 1, 0] rfl) K
        · have hM := g_neg c18 hM
          refine lv_aload_n hx hb dX9_manyIn_21 rfl (lv_at hl 0 rfl) ?_
          refine va_get (D := D) (ci := 9) (v := .ref h0_man) (C := RX9) (T := TX9) (N := 38) hx hb hts iX9 hown hK hP 0 rfl rfl 36 (by decide) k85 (fun _ h9 => h9) rfl dX9_manyIn_22 ?_
          refine lv_iload_n hx hb dX9_manyIn_25 rfl (lv_at hl 3 rfl) ?_
          obtain ⟨h26, hM⟩ := gi_some hM
          refine va_iald hx hb hK hP 1 2 rfl rfl h26 dX9_manyIn_26 ?_
          refine lv_iconst (v := 1) hx hb dX9_manyIn_27 (by decide) ?_
          refine lv_iadd hx hb dX9_manyIn_28 ?_
          refine lv_goto (tgt := 33) hx hb dX9_manyIn_29 (by decide) ?_
          refine lv_istore_n (lv' := [(2, .int ((v_man x3_4.toNatClampNeg) + (1 : Int32))), (0, .ref h0), (1, .int p1), (3, .int x3_4)]) hx hb dX9_manyIn_33 rfl hl (by decide) rfl (fun ls hl => ?_)
          refine lv_iinc (v := x3_4 + (1 : Int32)) (lv' := [(3, .int (x3_4 + (1 : Int32))), (2, .int ((v_man x3_4.toNatClampNeg) + (1 : Int32))), (0, .ref h0), (1, .int p1)]) hx hb dX9_manyIn_34 hl (k := 3) rfl rfl (by decide) rfl (fun ls hl => ?_)
          refine lv_goto (tgt := 4) hx hb dX9_manyIn_37 (by decide) ?_
          exact ih4 ((v_man x3_4.toNatClampNeg) + (1 : Int32)) (x3_4 + (1 : Int32)) e2_4 _ _ _ hM hP hD hS (lv_sub hl [2, 3, 1, 0] rfl) K
  obtain ⟨e2_4, hL4, hM⟩ := ob1_some hM
  refine L4 N (0 : Int32) (0 : Int32) e2_4 _ _ _ hL4 hP hD hS (lv_sub hl [2, 3, 1, 0] rfl) ?_
  intro H locs ls hP hD hS hl
  refine lv_iload_n hx hb dX9_manyIn_40 rfl (lv_at hl 0 rfl) ?_
  obtain rfl := si1 hM
  exact hret _ _ _ _ _ dX9_manyIn_41 rfl rfl hP hD hS

-- ===== X9_mayBe mayBe (I)Z =====
abbrev r9_mayBe : Room := { frames := 2, cells := 0, slots := 0, locals := 46 }
def f9_mayBe_L4 (N : Nat) (p1 : Int32) (v_lineDate : Nat → Int32) (v_lineAge : Nat → Int32) (v_man : Nat → Int32) : Nat → Int32 → Int32 → Option Int32
  | 0, _, _ => none
  | n + 1, x2_4, x3_4 => if p1 ≤ x3_4 then (some x2_4) else (if x2_4 = (0 : Int32) then ((f9_mayBe_L4 N p1 v_lineDate v_lineAge v_man n) (0 : Int32) (x3_4 + (1 : Int32))) else (gi x3_4 8 (gi p1 8 (if (v_man x3_4.toNatClampNeg) = (v_man p1.toNatClampNeg) then (ob1 (f9_isOne N x3_4 p1 v_lineDate v_lineAge) fun r31 => if r31 = (0 : Int32) then ((f9_mayBe_L4 N p1 v_lineDate v_lineAge v_man n) (0 : Int32) (x3_4 + (1 : Int32))) else ((f9_mayBe_L4 N p1 v_lineDate v_lineAge v_man n) (1 : Int32) (x3_4 + (1 : Int32)))) else ((f9_mayBe_L4 N p1 v_lineDate v_lineAge v_man n) (1 : Int32) (x3_4 + (1 : Int32)))))))
def f9_mayBe (N : Nat) (p1 : Int32) (v_lineDate : Nat → Int32) (v_lineAge : Nat → Int32) (v_man : Nat → Int32) : Option Int32 :=
  ob1 (f9_mayBe_L4 N p1 v_lineDate v_lineAge v_man N (1 : Int32) (0 : Int32)) fun e2_4 => gb e2_4 (some e2_4)
set_option maxHeartbeats 4000000 in
set_option maxRecDepth 100000 in
theorem c9_mayBe (l : Launch) (D : va_G) (cy : Nat → ClassId) (N : Nat) (h0 h0_lineDate h0_lineAge h0_man : Nat) (oh0_0 oh0_1 oh0_2 oh0_3 oh0_4 oh0_5 oh0_6 oh0_7 oh0_8 oh0_9 oh0_10 oh0_11 oh0_12 oh0_13 oh0_14 oh0_15 oh0_16 oh0_17 oh0_18 oh0_19 oh0_20 oh0_21 oh0_22 oh0_23 oh0_24 oh0_25 oh0_26 oh0_27 oh0_28 oh0_29 oh0_30 oh0_31 oh0_32 oh0_35 oh0_37 : Value) (p1 : Int32) (v_lineDate : Nat → Int32) (v_lineAge : Nat → Int32) (v_man : Nat → Int32) (r : Int32) (hM : f9_mayBe N p1 v_lineDate v_lineAge v_man = some r) (sz : Nat) : CTi l yX9_mayBe wsX9_mayBe r9_mayBe [.ref h0, .int p1] D cy sz [(h0, .inr (9, [oh0_0, oh0_1, oh0_2, oh0_3, oh0_4, oh0_5, oh0_6, oh0_7, oh0_8, oh0_9, oh0_10, oh0_11, oh0_12, oh0_13, oh0_14, oh0_15, oh0_16, oh0_17, oh0_18, oh0_19, oh0_20, oh0_21, oh0_22, oh0_23, oh0_24, oh0_25, oh0_26, oh0_27, oh0_28, oh0_29, oh0_30, oh0_31, oh0_32, .ref h0_lineDate, .ref h0_lineAge, oh0_35, .ref h0_man, oh0_37])), (h0_lineDate, .inl (cy 2, 8, .inl v_lineDate)), (h0_lineAge, .inl (cy 2, 8, .inl v_lineAge)), (h0_man, .inl (cy 2, 8, .inl v_man))] [(h0, .inr (9, [oh0_0, oh0_1, oh0_2, oh0_3, oh0_4, oh0_5, oh0_6, oh0_7, oh0_8, oh0_9, oh0_10, oh0_11, oh0_12, oh0_13, oh0_14, oh0_15, oh0_16, oh0_17, oh0_18, oh0_19, oh0_20, oh0_21, oh0_22, oh0_23, oh0_24, oh0_25, oh0_26, oh0_27, oh0_28, oh0_29, oh0_30, oh0_31, oh0_32, .ref h0_lineDate, .ref h0_lineAge, oh0_35, .ref h0_man, oh0_37])), (h0_lineDate, .inl (cy 2, 8, .inl v_lineDate)), (h0_lineAge, .inl (cy 2, 8, .inl v_lineAge)), (h0_man, .inl (cy 2, 8, .inl v_man))] r := by
  unfold f9_mayBe at hM
  refine ct_oi (cc := cX9_mayBe) (maxL := 4) (ty := .boolean) (by decide +kernel) rfl (Nat.le_of_ble_eq_true rfl) (lv0 := [(0, .ref h0), (1, .int p1)]) rfl ?_
  intro p e s m args below meth c A Q ls hx hb hts hown hml hK hP hD hS hA hret hl
  have hown : s.vm.findClass RX9 = some m.cls := hown
  have k85 := hts (.fieldLink RX9 85 "CaveYearsModel" "man" "[I") (List.mem_of_getElem? (i := 1) (by decide +kernel))
  have iX9 := (fun w h => (List.mem_cons_of_mem _ (List.mem_append_right _ h)) : ∀ w ∈ wsX90, w ∈ wsX9_mayBe)
  refine lv_iconst (v := 1) hx hb dX9_mayBe_0 (by decide) ?_
  refine lv_istore_n (lv' := [(2, .int (1 : Int32)), (0, .ref h0), (1, .int p1)]) hx hb dX9_mayBe_1 rfl hl (by decide) rfl (fun ls hl => ?_)
  refine lv_iconst (v := 0) hx hb dX9_mayBe_2 (by decide) ?_
  refine lv_istore_n (lv' := [(3, .int (0 : Int32)), (2, .int (1 : Int32)), (0, .ref h0), (1, .int p1)]) hx hb dX9_mayBe_3 rfl hl (by decide) rfl (fun ls hl => ?_)
  have L4 : ∀ (n : Nat) (x2_4 : Int32) (x3_4 : Int32) (e2_4 : Int32) (H : Heap) (locs : List Loc) (ls : Array Slot), f9_mayBe_L4 N p1 v_lineDate v_lineAge v_man n x2_4 x3_4 = some e2_4 → va_P D vwCl [(h0, .inr (9, [oh0_0, oh0_1, oh0_2, oh0_3, oh0_4, oh0_5, oh0_6, oh0_7, oh0_8, oh0_9, oh0_10, oh0_11, oh0_12, oh0_13, oh0_14, oh0_15, oh0_16, oh0_17, oh0_18, oh0_19, oh0_20, oh0_21, oh0_22, oh0_23, oh0_24, oh0_25, oh0_26, oh0_27, oh0_28, oh0_29, oh0_30, oh0_31, oh0_32, .ref h0_lineDate, .ref h0_lineAge, oh0_35, .ref h0_man, oh0_37])), (h0_lineDate, .inl (cy 2, 8, .inl v_lineDate)), (h0_lineAge, .inl (cy 2, 8, .inl v_lineAge)), (h0_man, .inl (cy 2, 8, .inl v_man))] H → va_D A [(h0, .inr (9, [oh0_0, oh0_1, oh0_2, oh0_3, oh0_4, oh0_5, oh0_6, oh0_7, oh0_8, oh0_9, oh0_10, oh0_11, oh0_12, oh0_13, oh0_14, oh0_15, oh0_16, oh0_17, oh0_18, oh0_19, oh0_20, oh0_21, oh0_22, oh0_23, oh0_24, oh0_25, oh0_26, oh0_27, oh0_28, oh0_29, oh0_30, oh0_31, oh0_32, .ref h0_lineDate, .ref h0_lineAge, oh0_35, .ref h0_man, oh0_37])), (h0_lineDate, .inl (cy 2, 8, .inl v_lineDate)), (h0_lineAge, .inl (cy 2, 8, .inl v_lineAge)), (h0_man, .inl (cy 2, 8, .inl v_man))] → va_S A s.heap H locs → lv_has ls 4 [(0, .ref h0), (1, .int p1), (2, .int x2_4), (3, .int x3_4)] → (∀ (H : Heap) (locs : List Loc) (ls : Array Slot), va_P D vwCl [(h0, .inr (9, [oh0_0, oh0_1, oh0_2, oh0_3, oh0_4, oh0_5, oh0_6, oh0_7, oh0_8, oh0_9, oh0_10, oh0_11, oh0_12, oh0_13, oh0_14, oh0_15, oh0_16, oh0_17, oh0_18, oh0_19, oh0_20, oh0_21, oh0_22, oh0_23, oh0_24, oh0_25, oh0_26, oh0_27, oh0_28, oh0_29, oh0_30, oh0_31, oh0_32, .ref h0_lineDate, .ref h0_lineAge, oh0_35, .ref h0_man, oh0_37])), (h0_lineDate, .inl (cy 2, 8, .inl v_lineDate)), (h0_lineAge, .inl (cy 2, 8, .inl v_lineAge)), (h0_man, .inl (cy 2, 8, .inl v_man))] H → va_D A [(h0, .inr (9, [oh0_0, oh0_1, oh0_2, oh0_3, oh0_4, oh0_5, oh0_6, oh0_7, oh0_8, oh0_9, oh0_10, oh0_11, oh0_12, oh0_13, oh0_14, oh0_15, oh0_16, oh0_17, oh0_18, oh0_19, oh0_20, oh0_21, oh0_22, oh0_23, oh0_24, oh0_25, oh0_26, oh0_27, oh0_28, oh0_29, oh0_30, oh0_31, oh0_32, .ref h0_lineDate, .ref h0_lineAge, oh0_35, .ref h0_man, oh0_37])), (h0_lineDate, .inl (cy 2, 8, .inl v_lineDate)), (h0_lineAge, .inl (cy 2, 8, .inl v_lineAge)), (h0_man, .inl (cy 2, 8, .inl v_man))] → va_S A s.heap H locs → lv_has ls 4 [(2, .int e2_4)] → W p l e r9_mayBe s m args below meth c H locs 0 0 Q (F0 m 49 ls [])) → W p l e r9_mayBe s m args below meth c H locs 0 0 Q (F0 m 4 ls []) := by
    intro n4
    induction n4 with
    | zero =>
      intro x2_4 x3_4 e2_4 H locs ls hM
      exact absurd hM (by simp [f9_mayBe_L4])
    | succ n4 ih4 =>
      intro x2_4 x3_4 e2_4 H locs ls hM hP hD hS hl K
      rw [f9_mayBe_L4] at hM
      refine lv_iload_n hx hb dX9_mayBe_4 rfl (lv_at hl 3 rfl) ?_
      refine lv_iload_n hx hb dX9_mayBe_5 rfl (lv_at hl 1 rfl) ?_
      refine lv_icmp_ge (tgt := 49) hx hb dX9_mayBe_6 (by decide) (fun c6 => ?_) (fun c6 => ?_)
      · have hM := g_pos c6 hM
        obtain rfl := si1 hM
        exact K _ _ _ hP hD hS (lv_sub hl [2] rfl)
      · have hM := g_neg c6 hM
        refine lv_iload_n hx hb dX9_mayBe_9 rfl (lv_at hl 2 rfl) ?_
        refine lv_if_eq (tgt := 41) hx hb dX9_mayBe_10 (by decide) (fun c10 => ?_) (fun c10 => ?_)
        · have hM := g_pos c10 hM
          refine lv_iconst (v := 0) hx hb dX9_mayBe_41 (by decide) ?_
          refine lv_istore_n (lv' := [(2, .int (0 : Int32)), (0, .ref h0), (1, .int p1), (3, .int x3_4)]) hx hb dX9_mayBe_42 rfl hl (by decide) rfl (fun ls hl => ?_)
          refine lv_iinc (v := x3_4 + (1 : Int32)) (lv' := [(3, .int (x3_4 + (1 : Int32))), (2, .int (0 : Int32)), (0, .ref h0), (1, .int p1)]) hx hb dX9_mayBe_43 hl (k := 3) rfl rfl (by decide) rfl (fun ls hl => ?_)
          refine lv_goto (tgt := 4) hx hb dX9_mayBe_46 (by decide) ?_
          exact ih4 (0 : Int32) (x3_4 + (1 : Int32)) e2_4 _ _ _ hM hP hD hS (lv_sub hl [2, 3, 1, 0] rfl) K
        · have hM := g_neg c10 hM
          refine lv_aload_n hx hb dX9_mayBe_13 rfl (lv_at hl 0 rfl) ?_
          refine va_get (D := D) (ci := 9) (v := .ref h0_man) (C := RX9) (T := TX9) (N := 38) hx hb hts iX9 hown hK hP 0 rfl rfl 36 (by decide) k85 (fun _ h9 => h9) rfl dX9_mayBe_14 ?_
          refine lv_iload_n hx hb dX9_mayBe_17 rfl (lv_at hl 3 rfl) ?_
          obtain ⟨h18, hM⟩ := gi_some hM
          refine va_iald hx hb hK hP 3 2 rfl rfl h18 dX9_mayBe_18 ?_
          refine lv_aload_n hx hb dX9_mayBe_19 rfl (lv_at hl 0 rfl) ?_
          refine va_get (D := D) (ci := 9) (v := .ref h0_man) (C := RX9) (T := TX9) (N := 38) hx hb hts iX9 hown hK hP 0 rfl rfl 36 (by decide) k85 (fun _ h9 => h9) rfl dX9_mayBe_20 ?_
          refine lv_iload_n hx hb dX9_mayBe_23 rfl (lv_at hl 1 rfl) ?_
          obtain ⟨h24, hM⟩ := gi_some hM
          refine va_iald hx hb hK hP 3 2 rfl rfl h24 dX9_mayBe_24 ?_
          refine lv_icmp_ne (tgt := 37) hx hb dX9_mayBe_25 (by decide) (fun c25 => ?_) (fun c25 => ?_)
          · have hM := g_neg c25 hM
            refine lv_iconst (v := 1) hx hb dX9_mayBe_37 (by decide) ?_
            refine lv_goto (tgt := 42) hx hb dX9_mayBe_38 (by decide) ?_
            refine lv_istore_n (lv' := [(2, .int (1 : Int32)), (0, .ref h0), (1, .int p1), (3, .int x3_4)]) hx hb dX9_mayBe_42 rfl hl (by decide) rfl (fun ls hl => ?_)
            refine lv_iinc (v := x3_4 + (1 : Int32)) (lv' := [(3, .int (x3_4 + (1 : Int32))), (2, .int (1 : Int32)), (0, .ref h0), (1, .int p1)]) hx hb dX9_mayBe_43 hl (k := 3) rfl rfl (by decide) rfl (fun ls hl => ?_)
            refine lv_goto (tgt := 4) hx hb dX9_mayBe_46 (by decide) ?_
            exact ih4 (1 : Int32) (x3_4 + (1 : Int32)) e2_4 _ _ _ hM hP hD hS (lv_sub hl [2, 3, 1, 0] rfl) K
          · have hM := g_pos c25 hM
            refine lv_aload_n hx hb dX9_mayBe_28 rfl (lv_at hl 0 rfl) ?_
            refine lv_iload_n hx hb dX9_mayBe_29 rfl (lv_at hl 3 rfl) ?_
            refine lv_iload_n hx hb dX9_mayBe_30 rfl (lv_at hl 1 rfl) ?_
            obtain ⟨r31, hc31, hM⟩ := ob1_some hM
            refine cl_vi (As := [.int x3_4, .int p1]) (rest := []) (ci := 9) (q0 := 0) (wr := [(h0_man, .inl (cy 2, 8, .inl v_man))]) (ws2 := [(h0, .inr (9, [oh0_0, oh0_1, oh0_2, oh0_3, oh0_4, oh0_5, oh0_6, oh0_7, oh0_8, oh0_9, oh0_10, oh0_11, oh0_12, oh0_13, oh0_14, oh0_15, oh0_16, oh0_17, oh0_18, oh0_19, oh0_20, oh0_21, oh0_22, oh0_23, oh0_24, oh0_25, oh0_26, oh0_27, oh0_28, oh0_29, oh0_30, oh0_31, oh0_32, .ref h0_lineDate, .ref h0_lineAge, oh0_35, .ref h0_man, oh0_37])), (h0_lineDate, .inl (cy 2, 8, .inl v_lineDate)), (h0_lineAge, .inl (cy 2, 8, .inl v_lineAge)), (h0_man, .inl (cy 2, 8, .inl v_man))]) (isC := [0, 1, 2]) (isR := [3]) (pm := [1, 2, 3, 0]) hx hb hml hown hts (c9_isOne l D cy N h0 h0_lineDate h0_lineAge oh0_0 oh0_1 oh0_2 oh0_3 oh0_4 oh0_5 oh0_6 oh0_7 oh0_8 oh0_9 oh0_10 oh0_11 oh0_12 oh0_13 oh0_14 oh0_15 oh0_16 oh0_17 oh0_18 oh0_19 oh0_20 oh0_21 oh0_22 oh0_23 oh0_24 oh0_25 oh0_26 oh0_27 oh0_28 oh0_29 oh0_30 oh0_31 oh0_32 oh0_35 (.ref h0_man) oh0_37 x3_4 p1 v_lineDate v_lineAge r31 hc31) (cwV 2 hts gX9_mayBe_X9_isOne rfl rfl rfl (by decide +kernel) ⟨Nat.le_of_ble_eq_true rfl, Nat.le_of_ble_eq_true rfl⟩) hK hP hD hS hA rfl rfl rfl rfl rfl (by decide) rfl rfl rfl hl.1 (Nat.le_of_ble_eq_true rfl) dX9_mayBe_31 ⟨Nat.zero_le _, Nat.zero_le _⟩ rfl rfl (fun H locs hP hD hS => ?_)
            refine lv_if_eq (tgt := 41) hx hb dX9_mayBe_34 (by decide) (fun c34 => ?_) (fun c34 => ?_)
            · have hM := g_pos c34 hM
              refine lv_iconst (v := 0) hx hb dX9_mayBe_41 (by decide) ?_
              refine lv_istore_n (lv' := [(2, .int (0 : Int32)), (0, .ref h0), (1, .int p1), (3, .int x3_4)]) hx hb dX9_mayBe_42 rfl hl (by decide) rfl (fun ls hl => ?_)
              refine lv_iinc (v := x3_4 + (1 : Int32)) (lv' := [(3, .int (x3_4 + (1 : Int32))), (2, .int (0 : Int32)), (0, .ref h0), (1, .int p1)]) hx hb dX9_mayBe_43 hl (k := 3) rfl rfl (by decide) rfl (fun ls hl => ?_)
              refine lv_goto (tgt := 4) hx hb dX9_mayBe_46 (by decide) ?_
              exact ih4 (0 : Int32) (x3_4 + (1 : Int32)) e2_4 _ _ _ hM hP hD hS (lv_sub hl [2, 3, 1, 0] rfl) K
            · have hM := g_neg c34 hM
              refine lv_iconst (v := 1) hx hb dX9_mayBe_37 (by decide) ?_
              refine lv_goto (tgt := 42) hx hb dX9_mayBe_38 (by decide) ?_
              refine lv_istore_n (lv' := [(2, .int (1 : Int32)), (0, .ref h0), (1, .int p1), (3, .int x3_4)]) hx hb dX9_mayBe_42 rfl hl (by decide) rfl (fun ls hl => ?_)
              refine lv_iinc (v := x3_4 + (1 : Int32)) (lv' := [(3, .int (x3_4 + (1 : Int32))), (2, .int (1 : Int32)), (0, .ref h0), (1, .int p1)]) hx hb dX9_mayBe_43 hl (k := 3) rfl rfl (by decide) rfl (fun ls hl => ?_)
              refine lv_goto (tgt := 4) hx hb dX9_mayBe_46 (by decide) ?_
              exact ih4 (1 : Int32) (x3_4 + (1 : Int32)) e2_4 _ _ _ hM hP hD hS (lv_sub hl [2, 3, 1, 0] rfl) K
  obtain ⟨e2_4, hL4, hM⟩ := ob1_some hM
  refine L4 N (1 : Int32) (0 : Int32) e2_4 _ _ _ hL4 hP hD hS (lv_sub hl [2, 3, 1, 0] rfl) ?_
  intro H locs ls hP hD hS hl
  refine lv_iload_n hx hb dX9_mayBe_49 rfl (lv_at hl 0 rfl) ?_
  obtain ⟨hz50, hM⟩ := gb_some hM
  obtain rfl := si1 hM
  exact hret _ _ _ _ _ dX9_mayBe_50 rfl hz50 hP hD hS

-- ===== X9_findFewest findFewest ()I =====
abbrev r9_findFewest : Room := { frames := 3, cells := 0, slots := 0, locals := 69 }
def f9_findFewest_L89 (N : Nat) (v_lines : Int32) (x1_25 : Int32) (x2_25 : Int32) (v_man_25 : Nat → Int32) (r82 : Int32) : Nat → Int32 → (Nat → Int32) → Option (Nat → Int32)
  | 0, _, _ => none
  | n + 1, x4_89, v_bestMan_89 => if v_lines ≤ x4_89 then (some v_bestMan_89) else (if x1_25 ≤ r82 then (some v_bestMan_89) else (gi x4_89 8 (gi x4_89 8 ((f9_findFewest_L89 N v_lines x1_25 x2_25 v_man_25 r82 n) (x4_89 + (1 : Int32)) (upd v_bestMan_89 x4_89.toNatClampNeg ((upd v_man_25 x2_25.toNatClampNeg ((v_man_25 x2_25.toNatClampNeg) + (1 : Int32))) x4_89.toNatClampNeg))))))
def f9_findFewest_L25 (N : Nat) (v_lines : Int32) (v_lineDate : Nat → Int32) (v_lineAge : Nat → Int32) : Nat → Int32 → Int32 → (Nat → Int32) → (Nat → Int32) → Option (Int32 × (Nat → Int32) × (Nat → Int32))
  | 0, _, _, _, _ => none
  | n + 1, x1_25, x2_25, v_man_25, v_bestMan_25 => if x2_25 < (0 : Int32) then (some (x1_25, v_man_25, v_bestMan_25)) else (gi x2_25 8 (gi x2_25 8 (gi x2_25 8 (ob1 (f9_manyIn N x2_25 (upd v_man_25 x2_25.toNatClampNeg ((v_man_25 x2_25.toNatClampNeg) + (1 : Int32)))) fun r47 => if ((upd v_man_25 x2_25.toNatClampNeg ((v_man_25 x2_25.toNatClampNeg) + (1 : Int32))) x2_25.toNatClampNeg) ≤ r47 then (ob1 (f9_mayBe N x2_25 v_lineDate v_lineAge (upd v_man_25 x2_25.toNatClampNeg ((v_man_25 x2_25.toNatClampNeg) + (1 : Int32)))) fun r61 => if r61 = (0 : Int32) then ((f9_findFewest_L25 N v_lines v_lineDate v_lineAge n) x1_25 x2_25 (upd v_man_25 x2_25.toNatClampNeg ((v_man_25 x2_25.toNatClampNeg) + (1 : Int32))) v_bestMan_25) else (if x2_25 = (v_lines - (1 : Int32)) then (ob1 (f9_manyIn N v_lines (upd v_man_25 x2_25.toNatClampNeg ((v_man_25 x2_25.toNatClampNeg) + (1 : Int32)))) fun r82 => ob1 (f9_findFewest_L89 N v_lines x1_25 x2_25 v_man_25 r82 N (0 : Int32) v_bestMan_25) fun v_bestMan_e89 => if x1_25 ≤ r82 then ((f9_findFewest_L25 N v_lines v_lineDate v_lineAge n) x1_25 x2_25 (upd v_man_25 x2_25.toNatClampNeg ((v_man_25 x2_25.toNatClampNeg) + (1 : Int32))) v_bestMan_e89) else ((f9_findFewest_L25 N v_lines v_lineDate v_lineAge n) r82 x2_25 (upd v_man_25 x2_25.toNatClampNeg ((v_man_25 x2_25.toNatClampNeg) + (1 : Int32))) v_bestMan_e89)) else (gi (x2_25 + (1 : Int32)) 8 ((f9_findFewest_L25 N v_lines v_lineDate v_lineAge n) x1_25 (x2_25 + (1 : Int32)) (upd (upd v_man_25 x2_25.toNatClampNeg ((v_man_25 x2_25.toNatClampNeg) + (1 : Int32))) (x2_25 + (1 : Int32)).toNatClampNeg (-1 : Int32)) v_bestMan_25)))) else ((f9_findFewest_L25 N v_lines v_lineDate v_lineAge n) x1_25 (x2_25 + (-1 : Int32)) (upd v_man_25 x2_25.toNatClampNeg ((v_man_25 x2_25.toNatClampNeg) + (1 : Int32))) v_bestMan_25)))))
def f9_findFewest (N : Nat) (v_lines : Int32) (v_lineDate : Nat → Int32) (v_lineAge : Nat → Int32) (v_man : Nat → Int32) (v_bestMan : Nat → Int32) : Option (Int32 × (Nat → Int32) × (Nat → Int32)) :=
  if v_lines = (0 : Int32) then (some ((0 : Int32), v_man, v_bestMan)) else (gi (0 : Int32) 8 (ob3 (f9_findFewest_L25 N v_lines v_lineDate v_lineAge N (v_lines + (1 : Int32)) (0 : Int32) (upd v_man (0 : Int32).toNatClampNeg (-1 : Int32)) v_bestMan) fun e1_25 v_man_e25 v_bestMan_e25 => some (e1_25, v_man_e25, v_bestMan_e25)))
set_option maxHeartbeats 4000000 in
set_option maxRecDepth 100000 in
theorem c9_findFewest (l : Launch) (D : va_G) (cy : Nat → ClassId) (N : Nat) (h0 h0_lineDate h0_lineAge h0_man h0_bestMan : Nat) (oh0_0 oh0_1 oh0_2 oh0_3 oh0_4 oh0_5 oh0_6 oh0_7 oh0_8 oh0_9 oh0_10 oh0_11 oh0_12 oh0_13 oh0_14 oh0_15 oh0_16 oh0_17 oh0_18 oh0_19 oh0_20 oh0_21 oh0_22 oh0_23 oh0_24 oh0_25 oh0_26 oh0_27 oh0_28 oh0_29 oh0_30 oh0_31 oh0_32 : Value) (v_lines : Int32) (v_lineDate : Nat → Int32) (v_lineAge : Nat → Int32) (v_man : Nat → Int32) (v_bestMan : Nat → Int32) (r : Int32) (nv_man : Nat → Int32) (nv_bestMan : Nat → Int32) (hM : f9_findFewest N v_lines v_lineDate v_lineAge v_man v_bestMan = some (r, nv_man, nv_bestMan)) (sz : Nat) : CTi l yX9_findFewest wsX9_findFewest r9_findFewest [.ref h0] D cy sz [(h0, .inr (9, [oh0_0, oh0_1, oh0_2, oh0_3, oh0_4, oh0_5, oh0_6, oh0_7, oh0_8, oh0_9, oh0_10, oh0_11, oh0_12, oh0_13, oh0_14, oh0_15, oh0_16, oh0_17, oh0_18, oh0_19, oh0_20, oh0_21, oh0_22, oh0_23, oh0_24, oh0_25, oh0_26, oh0_27, oh0_28, oh0_29, oh0_30, oh0_31, oh0_32, .ref h0_lineDate, .ref h0_lineAge, .int v_lines, .ref h0_man, .ref h0_bestMan])), (h0_lineDate, .inl (cy 2, 8, .inl v_lineDate)), (h0_lineAge, .inl (cy 2, 8, .inl v_lineAge)), (h0_man, .inl (cy 2, 8, .inl v_man)), (h0_bestMan, .inl (cy 2, 8, .inl v_bestMan))] [(h0, .inr (9, [oh0_0, oh0_1, oh0_2, oh0_3, oh0_4, oh0_5, oh0_6, oh0_7, oh0_8, oh0_9, oh0_10, oh0_11, oh0_12, oh0_13, oh0_14, oh0_15, oh0_16, oh0_17, oh0_18, oh0_19, oh0_20, oh0_21, oh0_22, oh0_23, oh0_24, oh0_25, oh0_26, oh0_27, oh0_28, oh0_29, oh0_30, oh0_31, oh0_32, .ref h0_lineDate, .ref h0_lineAge, .int v_lines, .ref h0_man, .ref h0_bestMan])), (h0_lineDate, .inl (cy 2, 8, .inl v_lineDate)), (h0_lineAge, .inl (cy 2, 8, .inl v_lineAge)), (h0_man, .inl (cy 2, 8, .inl nv_man)), (h0_bestMan, .inl (cy 2, 8, .inl nv_bestMan))] r := by
  unfold f9_findFewest at hM
  refine ct_oi (cc := cX9_findFewest) (maxL := 5) (ty := .int) (by decide +kernel) rfl (Nat.le_of_ble_eq_true rfl) (lv0 := [(0, .ref h0)]) rfl ?_
  intro p e s m args below meth c A Q ls hx hb hts hown hml hK hP hD hS hA hret hl
  have hown : s.vm.findClass RX9 = some m.cls := hown
  have k165 := hts (.fieldLink RX9 165 "CaveYearsModel" "lines" "I") (List.mem_of_getElem? (i := 1) (by decide +kernel))
  have iX9 := (fun w h => (List.mem_cons_of_mem _ (List.mem_append_right _ h)) : ∀ w ∈ wsX90, w ∈ wsX9_findFewest)
  have k85 := hts (.fieldLink RX9 85 "CaveYearsModel" "man" "[I") (List.mem_of_getElem? (i := 2) (by decide +kernel))
  have k88 := hts (.fieldLink RX9 88 "CaveYearsModel" "bestMan" "[I") (List.mem_of_getElem? (i := 3) (by decide +kernel))
  refine lv_aload_n hx hb dX9_findFewest_0 rfl (lv_at hl 0 rfl) ?_
  refine va_get (D := D) (ci := 9) (v := .int v_lines) (C := RX9) (T := TX9) (N := 38) hx hb hts iX9 hown hK hP 0 rfl rfl 35 (by decide) k165 (fun _ h9 => h9) rfl dX9_findFewest_1 ?_
  refine lv_iconst (v := 1) hx hb dX9_findFewest_4 (by decide) ?_
  refine lv_iadd hx hb dX9_findFewest_5 ?_
  refine lv_istore_n (lv' := [(1, .int (v_lines + (1 : Int32))), (0, .ref h0)]) hx hb dX9_findFewest_6 rfl hl (by decide) rfl (fun ls hl => ?_)
  refine lv_iconst (v := 0) hx hb dX9_findFewest_7 (by decide) ?_
  refine lv_istore_n (lv' := [(2, .int (0 : Int32)), (1, .int (v_lines + (1 : Int32))), (0, .ref h0)]) hx hb dX9_findFewest_8 rfl hl (by decide) rfl (fun ls hl => ?_)
  refine lv_aload_n hx hb dX9_findFewest_9 rfl (lv_at hl 2 rfl) ?_
  refine va_get (D := D) (ci := 9) (v := .int v_lines) (C := RX9) (T := TX9) (N := 38) hx hb hts iX9 hown hK hP 0 rfl rfl 35 (by decide) k165 (fun _ h9 => h9) rfl dX9_findFewest_10 ?_
  refine lv_if_ne (tgt := 18) hx hb dX9_findFewest_13 (by decide) (fun c13 => ?_) (fun c13 => ?_)
  · have hM := g_neg c13 hM
    refine lv_aload_n hx hb dX9_findFewest_18 rfl (lv_at hl 2 rfl) ?_
    refine va_get (D := D) (ci := 9) (v := .ref h0_man) (C := RX9) (T := TX9) (N := 38) hx hb hts iX9 hown hK hP 0 rfl rfl 36 (by decide) k85 (fun _ h9 => h9) rfl dX9_findFewest_19 ?_
    refine lv_iconst (v := 0) hx hb dX9_findFewest_22 (by decide) ?_
    refine lv_iconst (v := -1) hx hb dX9_findFewest_23 (by decide) ?_
    obtain ⟨h24, hM⟩ := gi_some hM
    refine va_iast hx hb hK hP hD hS 3 2 rfl rfl h24 dX9_findFewest_24 (fun H locs hP hD hS => ?_)
    have hP : va_P D vwCl [(h0, .inr (9, [oh0_0, oh0_1, oh0_2, oh0_3, oh0_4, oh0_5, oh0_6, oh0_7, oh0_8, oh0_9, oh0_10, oh0_11, oh0_12, oh0_13, oh0_14, oh0_15, oh0_16, oh0_17, oh0_18, oh0_19, oh0_20, oh0_21, oh0_22, oh0_23, oh0_24, oh0_25, oh0_26, oh0_27, oh0_28, oh0_29, oh0_30, oh0_31, oh0_32, .ref h0_lineDate, .ref h0_lineAge, .int v_lines, .ref h0_man, .ref h0_bestMan])), (h0_lineDate, .inl (cy 2, 8, .inl v_lineDate)), (h0_lineAge, .inl (cy 2, 8, .inl v_lineAge)), (h0_man, .inl (cy 2, 8, .inl (upd v_man (0 : Int32).toNatClampNeg (-1 : Int32)))), (h0_bestMan, .inl (cy 2, 8, .inl v_bestMan))] H := hP
    have hD : va_D A [(h0, .inr (9, [oh0_0, oh0_1, oh0_2, oh0_3, oh0_4, oh0_5, oh0_6, oh0_7, oh0_8, oh0_9, oh0_10, oh0_11, oh0_12, oh0_13, oh0_14, oh0_15, oh0_16, oh0_17, oh0_18, oh0_19, oh0_20, oh0_21, oh0_22, oh0_23, oh0_24, oh0_25, oh0_26, oh0_27, oh0_28, oh0_29, oh0_30, oh0_31, oh0_32, .ref h0_lineDate, .ref h0_lineAge, .int v_lines, .ref h0_man, .ref h0_bestMan])), (h0_lineDate, .inl (cy 2, 8, .inl v_lineDate)), (h0_lineAge, .inl (cy 2, 8, .inl v_lineAge)), (h0_man, .inl (cy 2, 8, .inl (upd v_man (0 : Int32).toNatClampNeg (-1 : Int32)))), (h0_bestMan, .inl (cy 2, 8, .inl v_bestMan))] := hD
    have L25 : ∀ (n : Nat) (x1_25 : Int32) (x2_25 : Int32) (v_man_25 : Nat → Int32) (v_bestMan_25 : Nat → Int32) (e1_25 : Int32) (v_man_e25 : Nat → Int32) (v_bestMan_e25 : Nat → Int32) (H : Heap) (locs : List Loc) (ls : Array Slot), f9_findFewest_L25 N v_lines v_lineDate v_lineAge n x1_25 x2_25 v_man_25 v_bestMan_25 = some (e1_25, v_man_e25, v_bestMan_e25) → va_P D vwCl [(h0, .inr (9, [oh0_0, oh0_1, oh0_2, oh0_3, oh0_4, oh0_5, oh0_6, oh0_7, oh0_8, oh0_9, oh0_10, oh0_11, oh0_12, oh0_13, oh0_14, oh0_15, oh0_16, oh0_17, oh0_18, oh0_19, oh0_20, oh0_21, oh0_22, oh0_23, oh0_24, oh0_25, oh0_26, oh0_27, oh0_28, oh0_29, oh0_30, oh0_31, oh0_32, .ref h0_lineDate, .ref h0_lineAge, .int v_lines, .ref h0_man, .ref h0_bestMan])), (h0_lineDate, .inl (cy 2, 8, .inl v_lineDate)), (h0_lineAge, .inl (cy 2, 8, .inl v_lineAge)), (h0_man, .inl (cy 2, 8, .inl v_man_25)), (h0_bestMan, .inl (cy 2, 8, .inl v_bestMan_25))] H → va_D A [(h0, .inr (9, [oh0_0, oh0_1, oh0_2, oh0_3, oh0_4, oh0_5, oh0_6, oh0_7, oh0_8, oh0_9, oh0_10, oh0_11, oh0_12, oh0_13, oh0_14, oh0_15, oh0_16, oh0_17, oh0_18, oh0_19, oh0_20, oh0_21, oh0_22, oh0_23, oh0_24, oh0_25, oh0_26, oh0_27, oh0_28, oh0_29, oh0_30, oh0_31, oh0_32, .ref h0_lineDate, .ref h0_lineAge, .int v_lines, .ref h0_man, .ref h0_bestMan])), (h0_lineDate, .inl (cy 2, 8, .inl v_lineDate)), (h0_lineAge, .inl (cy 2, 8, .inl v_lineAge)), (h0_man, .inl (cy 2, 8, .inl v_man_25)), (h0_bestMan, .inl (cy 2, 8, .inl v_bestMan_25))] → va_S A s.heap H locs → lv_has ls 5 [(0, .ref h0), (1, .int x1_25), (2, .int x2_25)] → (∀ (H : Heap) (locs : List Loc) (ls : Array Slot), va_P D vwCl [(h0, .inr (9, [oh0_0, oh0_1, oh0_2, oh0_3, oh0_4, oh0_5, oh0_6, oh0_7, oh0_8, oh0_9, oh0_10, oh0_11, oh0_12, oh0_13, oh0_14, oh0_15, oh0_16, oh0_17, oh0_18, oh0_19, oh0_20, oh0_21, oh0_22, oh0_23, oh0_24, oh0_25, oh0_26, oh0_27, oh0_28, oh0_29, oh0_30, oh0_31, oh0_32, .ref h0_lineDate, .ref h0_lineAge, .int v_lines, .ref h0_man, .ref h0_bestMan])), (h0_lineDate, .inl (cy 2, 8, .inl v_lineDate)), (h0_lineAge, .inl (cy 2, 8, .inl v_lineAge)), (h0_man, .inl (cy 2, 8, .inl v_man_e25)), (h0_bestMan, .inl (cy 2, 8, .inl v_bestMan_e25))] H → va_D A [(h0, .inr (9, [oh0_0, oh0_1, oh0_2, oh0_3, oh0_4, oh0_5, oh0_6, oh0_7, oh0_8, oh0_9, oh0_10, oh0_11, oh0_12, oh0_13, oh0_14, oh0_15, oh0_16, oh0_17, oh0_18, oh0_19, oh0_20, oh0_21, oh0_22, oh0_23, oh0_24, oh0_25, oh0_26, oh0_27, oh0_28, oh0_29, oh0_30, oh0_31, oh0_32, .ref h0_lineDate, .ref h0_lineAge, .int v_lines, .ref h0_man, .ref h0_bestMan])), (h0_lineDate, .inl (cy 2, 8, .inl v_lineDate)), (h0_lineAge, .inl (cy 2, 8, .inl v_lineAge)), (h0_man, .inl (cy 2, 8, .inl v_man_e25)), (h0_bestMan, .inl (cy 2, 8, .inl v_bestMan_e25))] → va_S A s.heap H locs → lv_has ls 5 [(1, .int e1_25)] → W p l e r9_findFewest s m args below meth c H locs 0 0 Q (F0 m 150 ls [])) → W p l e r9_findFewest s m args below meth c H locs 0 0 Q (F0 m 25 ls []) := by
      intro n25
      induction n25 with
      | zero =>
        intro x1_25 x2_25 v_man_25 v_bestMan_25 e1_25 v_man_e25 v_bestMan_e25 H locs ls hM
        exact absurd hM (by simp [f9_findFewest_L25])
      | succ n25 ih25 =>
        intro x1_25 x2_25 v_man_25 v_bestMan_25 e1_25 v_man_e25 v_bestMan_e25 H locs ls hM hP hD hS hl K
        rw [f9_findFewest_L25] at hM
        refine lv_iload_n hx hb dX9_findFewest_25 rfl (lv_at hl 2 rfl) ?_
        refine lv_if_lt (tgt := 150) hx hb dX9_findFewest_26 (by decide) (fun c26 => ?_) (fun c26 => ?_)
        · have hM := g_pos c26 hM
          obtain ⟨rfl, rfl, rfl⟩ := si3 hM
          exact K _ _ _ hP hD hS (lv_sub hl [1] rfl)
        · have hM := g_neg c26 hM
          refine lv_aload_n hx hb dX9_findFewest_29 rfl (lv_at hl 0 rfl) ?_
          refine va_get (D := D) (ci := 9) (v := .ref h0_man) (C := RX9) (T := TX9) (N := 38) hx hb hts iX9 hown hK hP 0 rfl rfl 36 (by decide) k85 (fun _ h9 => h9) rfl dX9_findFewest_30 ?_
          refine lv_iload_n hx hb dX9_findFewest_33 rfl (lv_at hl 2 rfl) ?_
          refine lv_dup2_11 hx hb dX9_findFewest_34 rfl rfl ?_
          obtain ⟨h35, hM⟩ := gi_some hM
          refine va_iald hx hb hK hP 3 2 rfl rfl h35 dX9_findFewest_35 ?_
          refine lv_iconst (v := 1) hx hb dX9_findFewest_36 (by decide) ?_
          refine lv_iadd hx hb dX9_findFewest_37 ?_
          obtain ⟨h38, hM⟩ := gi_some hM
          refine va_iast hx hb hK hP hD hS 3 2 rfl rfl h38 dX9_findFewest_38 (fun H locs hP hD hS => ?_)
          have hP : va_P D vwCl [(h0, .inr (9, [oh0_0, oh0_1, oh0_2, oh0_3, oh0_4, oh0_5, oh0_6, oh0_7, oh0_8, oh0_9, oh0_10, oh0_11, oh0_12, oh0_13, oh0_14, oh0_15, oh0_16, oh0_17, oh0_18, oh0_19, oh0_20, oh0_21, oh0_22, oh0_23, oh0_24, oh0_25, oh0_26, oh0_27, oh0_28, oh0_29, oh0_30, oh0_31, oh0_32, .ref h0_lineDate, .ref h0_lineAge, .int v_lines, .ref h0_man, .ref h0_bestMan])), (h0_lineDate, .inl (cy 2, 8, .inl v_lineDate)), (h0_lineAge, .inl (cy 2, 8, .inl v_lineAge)), (h0_man, .inl (cy 2, 8, .inl (upd v_man_25 x2_25.toNatClampNeg ((v_man_25 x2_25.toNatClampNeg) + (1 : Int32))))), (h0_bestMan, .inl (cy 2, 8, .inl v_bestMan_25))] H := hP
          have hD : va_D A [(h0, .inr (9, [oh0_0, oh0_1, oh0_2, oh0_3, oh0_4, oh0_5, oh0_6, oh0_7, oh0_8, oh0_9, oh0_10, oh0_11, oh0_12, oh0_13, oh0_14, oh0_15, oh0_16, oh0_17, oh0_18, oh0_19, oh0_20, oh0_21, oh0_22, oh0_23, oh0_24, oh0_25, oh0_26, oh0_27, oh0_28, oh0_29, oh0_30, oh0_31, oh0_32, .ref h0_lineDate, .ref h0_lineAge, .int v_lines, .ref h0_man, .ref h0_bestMan])), (h0_lineDate, .inl (cy 2, 8, .inl v_lineDate)), (h0_lineAge, .inl (cy 2, 8, .inl v_lineAge)), (h0_man, .inl (cy 2, 8, .inl (upd v_man_25 x2_25.toNatClampNeg ((v_man_25 x2_25.toNatClampNeg) + (1 : Int32))))), (h0_bestMan, .inl (cy 2, 8, .inl v_bestMan_25))] := hD
          refine lv_aload_n hx hb dX9_findFewest_39 rfl (lv_at hl 0 rfl) ?_
          refine va_get (D := D) (ci := 9) (v := .ref h0_man) (C := RX9) (T := TX9) (N := 38) hx hb hts iX9 hown hK hP 0 rfl rfl 36 (by decide) k85 (fun _ h9 => h9) rfl dX9_findFewest_40 ?_
          refine lv_iload_n hx hb dX9_findFewest_43 rfl (lv_at hl 2 rfl) ?_
          obtain ⟨h44, hM⟩ := gi_some hM
          refine va_iald hx hb hK hP 3 2 rfl rfl h44 dX9_findFewest_44 ?_
          refine lv_aload_n hx hb dX9_findFewest_45 rfl (lv_at hl 0 rfl) ?_
          refine lv_iload_n hx hb dX9_findFewest_46 rfl (lv_at hl 2 rfl) ?_
          obtain ⟨r47, hc47, hM⟩ := ob1_some hM
          refine cl_vi (As := [.int x2_25]) (rest := [.int ((upd v_man_25 x2_25.toNatClampNeg ((v_man_25 x2_25.toNatClampNeg) + (1 : Int32))) x2_25.toNatClampNeg)]) (ci := 9) (q0 := 0) (wr := [(h0_lineDate, .inl (cy 2, 8, .inl v_lineDate)), (h0_lineAge, .inl (cy 2, 8, .inl v_lineAge)), (h0_bestMan, .inl (cy 2, 8, .inl v_bestMan_25))]) (ws2 := [(h0, .inr (9, [oh0_0, oh0_1, oh0_2, oh0_3, oh0_4, oh0_5, oh0_6, oh0_7, oh0_8, oh0_9, oh0_10, oh0_11, oh0_12, oh0_13, oh0_14, oh0_15, oh0_16, oh0_17, oh0_18, oh0_19, oh0_20, oh0_21, oh0_22, oh0_23, oh0_24, oh0_25, oh0_26, oh0_27, oh0_28, oh0_29, oh0_30, oh0_31, oh0_32, .ref h0_lineDate, .ref h0_lineAge, .int v_lines, .ref h0_man, .ref h0_bestMan])), (h0_lineDate, .inl (cy 2, 8, .inl v_lineDate)), (h0_lineAge, .inl (cy 2, 8, .inl v_lineAge)), (h0_man, .inl (cy 2, 8, .inl (upd v_man_25 x2_25.toNatClampNeg ((v_man_25 x2_25.toNatClampNeg) + (1 : Int32))))), (h0_bestMan, .inl (cy 2, 8, .inl v_bestMan_25))]) (isC := [0, 3]) (isR := [1, 2, 4]) (pm := [3, 0, 1, 4, 2]) hx hb hml hown hts (c9_manyIn l D cy N h0 h0_man oh0_0 oh0_1 oh0_2 oh0_3 oh0_4 oh0_5 oh0_6 oh0_7 oh0_8 oh0_9 oh0_10 oh0_11 oh0_12 oh0_13 oh0_14 oh0_15 oh0_16 oh0_17 oh0_18 oh0_19 oh0_20 oh0_21 oh0_22 oh0_23 oh0_24 oh0_25 oh0_26 oh0_27 oh0_28 oh0_29 oh0_30 oh0_31 oh0_32 (.ref h0_lineDate) (.ref h0_lineAge) (.int v_lines) (.ref h0_bestMan) x2_25 (upd v_man_25 x2_25.toNatClampNeg ((v_man_25 x2_25.toNatClampNeg) + (1 : Int32))) r47 hc47) (cwV 1 hts gX9_findFewest_X9_manyIn rfl rfl rfl (by decide +kernel) ⟨Nat.le_of_ble_eq_true rfl, Nat.le_of_ble_eq_true rfl⟩) hK hP hD hS hA rfl rfl rfl rfl rfl (by decide) rfl rfl rfl hl.1 (Nat.le_of_ble_eq_true rfl) dX9_findFewest_47 ⟨Nat.zero_le _, Nat.zero_le _⟩ rfl rfl (fun H locs hP hD hS => ?_)
          refine lv_icmp_le (tgt := 59) hx hb dX9_findFewest_50 (by decide) (fun c50 => ?_) (fun c50 => ?_)
          · have hM := g_pos c50 hM
            refine lv_aload_n hx hb dX9_findFewest_59 rfl (lv_at hl 0 rfl) ?_
            refine lv_iload_n hx hb dX9_findFewest_60 rfl (lv_at hl 2 rfl) ?_
            obtain ⟨r61, hc61, hM⟩ := ob1_some hM
            refine cl_vi (As := [.int x2_25]) (rest := []) (ci := 9) (q0 := 0) (wr := [(h0_bestMan, .inl (cy 2, 8, .inl v_bestMan_25))]) (ws2 := [(h0, .inr (9, [oh0_0, oh0_1, oh0_2, oh0_3, oh0_4, oh0_5, oh0_6, oh0_7, oh0_8, oh0_9, oh0_10, oh0_11, oh0_12, oh0_13, oh0_14, oh0_15, oh0_16, oh0_17, oh0_18, oh0_19, oh0_20, oh0_21, oh0_22, oh0_23, oh0_24, oh0_25, oh0_26, oh0_27, oh0_28, oh0_29, oh0_30, oh0_31, oh0_32, .ref h0_lineDate, .ref h0_lineAge, .int v_lines, .ref h0_man, .ref h0_bestMan])), (h0_lineDate, .inl (cy 2, 8, .inl v_lineDate)), (h0_lineAge, .inl (cy 2, 8, .inl v_lineAge)), (h0_man, .inl (cy 2, 8, .inl (upd v_man_25 x2_25.toNatClampNeg ((v_man_25 x2_25.toNatClampNeg) + (1 : Int32))))), (h0_bestMan, .inl (cy 2, 8, .inl v_bestMan_25))]) (isC := [0, 1, 2, 3]) (isR := [4]) (pm := [1, 2, 3, 4, 0]) hx hb hml hown hts (c9_mayBe l D cy N h0 h0_lineDate h0_lineAge h0_man oh0_0 oh0_1 oh0_2 oh0_3 oh0_4 oh0_5 oh0_6 oh0_7 oh0_8 oh0_9 oh0_10 oh0_11 oh0_12 oh0_13 oh0_14 oh0_15 oh0_16 oh0_17 oh0_18 oh0_19 oh0_20 oh0_21 oh0_22 oh0_23 oh0_24 oh0_25 oh0_26 oh0_27 oh0_28 oh0_29 oh0_30 oh0_31 oh0_32 (.int v_lines) (.ref h0_bestMan) x2_25 v_lineDate v_lineAge (upd v_man_25 x2_25.toNatClampNeg ((v_man_25 x2_25.toNatClampNeg) + (1 : Int32))) r61 hc61) (cwV 1 hts gX9_findFewest_X9_mayBe rfl rfl rfl (by decide +kernel) ⟨Nat.le_of_ble_eq_true rfl, Nat.le_of_ble_eq_true rfl⟩) hK hP hD hS hA rfl rfl rfl rfl rfl (by decide) rfl rfl rfl hl.1 (Nat.le_of_ble_eq_true rfl) dX9_findFewest_61 ⟨Nat.zero_le _, Nat.zero_le _⟩ rfl rfl (fun H locs hP hD hS => ?_)
            refine lv_if_eq (tgt := 25) hx hb dX9_findFewest_64 (by decide) (fun c64 => ?_) (fun c64 => ?_)
            · have hM := g_pos c64 hM
              exact ih25 x1_25 x2_25 (upd v_man_25 x2_25.toNatClampNeg ((v_man_25 x2_25.toNatClampNeg) + (1 : Int32))) v_bestMan_25 e1_25 v_man_e25 v_bestMan_e25 _ _ _ hM hP hD hS (lv_sub hl [0, 1, 2] rfl) K
            · have hM := g_neg c64 hM
              refine lv_iload_n hx hb dX9_findFewest_67 rfl (lv_at hl 2 rfl) ?_
              refine lv_aload_n hx hb dX9_findFewest_68 rfl (lv_at hl 0 rfl) ?_
              refine va_get (D := D) (ci := 9) (v := .int v_lines) (C := RX9) (T := TX9) (N := 38) hx hb hts iX9 hown hK hP 0 rfl rfl 35 (by decide) k165 (fun _ h9 => h9) rfl dX9_findFewest_69 ?_
              refine lv_iconst (v := 1) hx hb dX9_findFewest_72 (by decide) ?_
              refine lv_isub hx hb dX9_findFewest_73 ?_
              refine lv_icmp_ne (tgt := 137) hx hb dX9_findFewest_74 (by decide) (fun c74 => ?_) (fun c74 => ?_)
              · have hM := g_neg c74 hM
                refine lv_iinc (v := x2_25 + (1 : Int32)) (lv' := [(2, .int (x2_25 + (1 : Int32))), (0, .ref h0), (1, .int x1_25)]) hx hb dX9_findFewest_137 hl (k := 2) rfl rfl (by decide) rfl (fun ls hl => ?_)
                refine lv_aload_n hx hb dX9_findFewest_140 rfl (lv_at hl 1 rfl) ?_
                refine va_get (D := D) (ci := 9) (v := .ref h0_man) (C := RX9) (T := TX9) (N := 38) hx hb hts iX9 hown hK hP 0 rfl rfl 36 (by decide) k85 (fun _ h9 => h9) rfl dX9_findFewest_141 ?_
                refine lv_iload_n hx hb dX9_findFewest_144 rfl (lv_at hl 0 rfl) ?_
                refine lv_iconst (v := -1) hx hb dX9_findFewest_145 (by decide) ?_
                obtain ⟨h146, hM⟩ := gi_some hM
                refine va_iast hx hb hK hP hD hS 3 2 rfl rfl h146 dX9_findFewest_146 (fun H locs hP hD hS => ?_)
                have hP : va_P D vwCl [(h0, .inr (9, [oh0_0, oh0_1, oh0_2, oh0_3, oh0_4, oh0_5, oh0_6, oh0_7, oh0_8, oh0_9, oh0_10, oh0_11, oh0_12, oh0_13, oh0_14, oh0_15, oh0_16, oh0_17, oh0_18, oh0_19, oh0_20, oh0_21, oh0_22, oh0_23, oh0_24, oh0_25, oh0_26, oh0_27, oh0_28, oh0_29, oh0_30, oh0_31, oh0_32, .ref h0_lineDate, .ref h0_lineAge, .int v_lines, .ref h0_man, .ref h0_bestMan])), (h0_lineDate, .inl (cy 2, 8, .inl v_lineDate)), (h0_lineAge, .inl (cy 2, 8, .inl v_lineAge)), (h0_man, .inl (cy 2, 8, .inl (upd (upd v_man_25 x2_25.toNatClampNeg ((v_man_25 x2_25.toNatClampNeg) + (1 : Int32))) (x2_25 + (1 : Int32)).toNatClampNeg (-1 : Int32)))), (h0_bestMan, .inl (cy 2, 8, .inl v_bestMan_25))] H := hP
                have hD : va_D A [(h0, .inr (9, [oh0_0, oh0_1, oh0_2, oh0_3, oh0_4, oh0_5, oh0_6, oh0_7, oh0_8, oh0_9, oh0_10, oh0_11, oh0_12, oh0_13, oh0_14, oh0_15, oh0_16, oh0_17, oh0_18, oh0_19, oh0_20, oh0_21, oh0_22, oh0_23, oh0_24, oh0_25, oh0_26, oh0_27, oh0_28, oh0_29, oh0_30, oh0_31, oh0_32, .ref h0_lineDate, .ref h0_lineAge, .int v_lines, .ref h0_man, .ref h0_bestMan])), (h0_lineDate, .inl (cy 2, 8, .inl v_lineDate)), (h0_lineAge, .inl (cy 2, 8, .inl v_lineAge)), (h0_man, .inl (cy 2, 8, .inl (upd (upd v_man_25 x2_25.toNatClampNeg ((v_man_25 x2_25.toNatClampNeg) + (1 : Int32))) (x2_25 + (1 : Int32)).toNatClampNeg (-1 : Int32)))), (h0_bestMan, .inl (cy 2, 8, .inl v_bestMan_25))] := hD
                refine lv_goto (tgt := 25) hx hb dX9_findFewest_147 (by decide) ?_
                exact ih25 x1_25 (x2_25 + (1 : Int32)) (upd (upd v_man_25 x2_25.toNatClampNeg ((v_man_25 x2_25.toNatClampNeg) + (1 : Int32))) (x2_25 + (1 : Int32)).toNatClampNeg (-1 : Int32)) v_bestMan_25 e1_25 v_man_e25 v_bestMan_e25 _ _ _ hM hP hD hS (lv_sub hl [1, 2, 0] rfl) K
              · have hM := g_pos c74 hM
                refine lv_aload_n hx hb dX9_findFewest_77 rfl (lv_at hl 0 rfl) ?_
                refine lv_aload_n hx hb dX9_findFewest_78 rfl (lv_at hl 0 rfl) ?_
                refine va_get (D := D) (ci := 9) (v := .int v_lines) (C := RX9) (T := TX9) (N := 38) hx hb hts iX9 hown hK hP 0 rfl rfl 35 (by decide) k165 (fun _ h9 => h9) rfl dX9_findFewest_79 ?_
                obtain ⟨r82, hc82, hM⟩ := ob1_some hM
                refine cl_vi (As := [.int v_lines]) (rest := []) (ci := 9) (q0 := 0) (wr := [(h0_lineDate, .inl (cy 2, 8, .inl v_lineDate)), (h0_lineAge, .inl (cy 2, 8, .inl v_lineAge)), (h0_bestMan, .inl (cy 2, 8, .inl v_bestMan_25))]) (ws2 := [(h0, .inr (9, [oh0_0, oh0_1, oh0_2, oh0_3, oh0_4, oh0_5, oh0_6, oh0_7, oh0_8, oh0_9, oh0_10, oh0_11, oh0_12, oh0_13, oh0_14, oh0_15, oh0_16, oh0_17, oh0_18, oh0_19, oh0_20, oh0_21, oh0_22, oh0_23, oh0_24, oh0_25, oh0_26, oh0_27, oh0_28, oh0_29, oh0_30, oh0_31, oh0_32, .ref h0_lineDate, .ref h0_lineAge, .int v_lines, .ref h0_man, .ref h0_bestMan])), (h0_lineDate, .inl (cy 2, 8, .inl v_lineDate)), (h0_lineAge, .inl (cy 2, 8, .inl v_lineAge)), (h0_man, .inl (cy 2, 8, .inl (upd v_man_25 x2_25.toNatClampNeg ((v_man_25 x2_25.toNatClampNeg) + (1 : Int32))))), (h0_bestMan, .inl (cy 2, 8, .inl v_bestMan_25))]) (isC := [0, 3]) (isR := [1, 2, 4]) (pm := [3, 0, 1, 4, 2]) hx hb hml hown hts (c9_manyIn l D cy N h0 h0_man oh0_0 oh0_1 oh0_2 oh0_3 oh0_4 oh0_5 oh0_6 oh0_7 oh0_8 oh0_9 oh0_10 oh0_11 oh0_12 oh0_13 oh0_14 oh0_15 oh0_16 oh0_17 oh0_18 oh0_19 oh0_20 oh0_21 oh0_22 oh0_23 oh0_24 oh0_25 oh0_26 oh0_27 oh0_28 oh0_29 oh0_30 oh0_31 oh0_32 (.ref h0_lineDate) (.ref h0_lineAge) (.int v_lines) (.ref h0_bestMan) v_lines (upd v_man_25 x2_25.toNatClampNeg ((v_man_25 x2_25.toNatClampNeg) + (1 : Int32))) r82 hc82) (cwV 1 hts gX9_findFewest_X9_manyIn rfl rfl rfl (by decide +kernel) ⟨Nat.le_of_ble_eq_true rfl, Nat.le_of_ble_eq_true rfl⟩) hK hP hD hS hA rfl rfl rfl rfl rfl (by decide) rfl rfl rfl hl.1 (Nat.le_of_ble_eq_true rfl) dX9_findFewest_82 ⟨Nat.zero_le _, Nat.zero_le _⟩ rfl rfl (fun H locs hP hD hS => ?_)
                refine lv_istore_n (lv' := [(3, .int r82), (0, .ref h0), (1, .int x1_25), (2, .int x2_25)]) hx hb dX9_findFewest_85 rfl hl (by decide) rfl (fun ls hl => ?_)
                refine lv_iconst (v := 0) hx hb dX9_findFewest_86 (by decide) ?_
                refine lv_istore (lv' := [(4, .int (0 : Int32)), (3, .int r82), (0, .ref h0), (1, .int x1_25), (2, .int x2_25)]) hx hb dX9_findFewest_87 hl (by decide) rfl (fun ls hl => ?_)
                have L89 : ∀ (n : Nat) (x4_89 : Int32) (v_bestMan_89 : Nat → Int32) (v_bestMan_e89 : Nat → Int32) (H : Heap) (locs : List Loc) (ls : Array Slot), f9_findFewest_L89 N v_lines x1_25 x2_25 v_man_25 r82 n x4_89 v_bestMan_89 = some v_bestMan_e89 → va_P D vwCl [(h0, .inr (9, [oh0_0, oh0_1, oh0_2, oh0_3, oh0_4, oh0_5, oh0_6, oh0_7, oh0_8, oh0_9, oh0_10, oh0_11, oh0_12, oh0_13, oh0_14, oh0_15, oh0_16, oh0_17, oh0_18, oh0_19, oh0_20, oh0_21, oh0_22, oh0_23, oh0_24, oh0_25, oh0_26, oh0_27, oh0_28, oh0_29, oh0_30, oh0_31, oh0_32, .ref h0_lineDate, .ref h0_lineAge, .int v_lines, .ref h0_man, .ref h0_bestMan])), (h0_lineDate, .inl (cy 2, 8, .inl v_lineDate)), (h0_lineAge, .inl (cy 2, 8, .inl v_lineAge)), (h0_man, .inl (cy 2, 8, .inl (upd v_man_25 x2_25.toNatClampNeg ((v_man_25 x2_25.toNatClampNeg) + (1 : Int32))))), (h0_bestMan, .inl (cy 2, 8, .inl v_bestMan_89))] H → va_D A [(h0, .inr (9, [oh0_0, oh0_1, oh0_2, oh0_3, oh0_4, oh0_5, oh0_6, oh0_7, oh0_8, oh0_9, oh0_10, oh0_11, oh0_12, oh0_13, oh0_14, oh0_15, oh0_16, oh0_17, oh0_18, oh0_19, oh0_20, oh0_21, oh0_22, oh0_23, oh0_24, oh0_25, oh0_26, oh0_27, oh0_28, oh0_29, oh0_30, oh0_31, oh0_32, .ref h0_lineDate, .ref h0_lineAge, .int v_lines, .ref h0_man, .ref h0_bestMan])), (h0_lineDate, .inl (cy 2, 8, .inl v_lineDate)), (h0_lineAge, .inl (cy 2, 8, .inl v_lineAge)), (h0_man, .inl (cy 2, 8, .inl (upd v_man_25 x2_25.toNatClampNeg ((v_man_25 x2_25.toNatClampNeg) + (1 : Int32))))), (h0_bestMan, .inl (cy 2, 8, .inl v_bestMan_89))] → va_S A s.heap H locs → lv_has ls 5 [(0, .ref h0), (1, .int x1_25), (2, .int x2_25), (3, .int r82), (4, .int x4_89)] → (∀ (H : Heap) (locs : List Loc) (ls : Array Slot), va_P D vwCl [(h0, .inr (9, [oh0_0, oh0_1, oh0_2, oh0_3, oh0_4, oh0_5, oh0_6, oh0_7, oh0_8, oh0_9, oh0_10, oh0_11, oh0_12, oh0_13, oh0_14, oh0_15, oh0_16, oh0_17, oh0_18, oh0_19, oh0_20, oh0_21, oh0_22, oh0_23, oh0_24, oh0_25, oh0_26, oh0_27, oh0_28, oh0_29, oh0_30, oh0_31, oh0_32, .ref h0_lineDate, .ref h0_lineAge, .int v_lines, .ref h0_man, .ref h0_bestMan])), (h0_lineDate, .inl (cy 2, 8, .inl v_lineDate)), (h0_lineAge, .inl (cy 2, 8, .inl v_lineAge)), (h0_man, .inl (cy 2, 8, .inl (upd v_man_25 x2_25.toNatClampNeg ((v_man_25 x2_25.toNatClampNeg) + (1 : Int32))))), (h0_bestMan, .inl (cy 2, 8, .inl v_bestMan_e89))] H → va_D A [(h0, .inr (9, [oh0_0, oh0_1, oh0_2, oh0_3, oh0_4, oh0_5, oh0_6, oh0_7, oh0_8, oh0_9, oh0_10, oh0_11, oh0_12, oh0_13, oh0_14, oh0_15, oh0_16, oh0_17, oh0_18, oh0_19, oh0_20, oh0_21, oh0_22, oh0_23, oh0_24, oh0_25, oh0_26, oh0_27, oh0_28, oh0_29, oh0_30, oh0_31, oh0_32, .ref h0_lineDate, .ref h0_lineAge, .int v_lines, .ref h0_man, .ref h0_bestMan])), (h0_lineDate, .inl (cy 2, 8, .inl v_lineDate)), (h0_lineAge, .inl (cy 2, 8, .inl v_lineAge)), (h0_man, .inl (cy 2, 8, .inl (upd v_man_25 x2_25.toNatClampNeg ((v_man_25 x2_25.toNatClampNeg) + (1 : Int32))))), (h0_bestMan, .inl (cy 2, 8, .inl v_bestMan_e89))] → va_S A s.heap H locs → lv_has ls 5 [(0, .ref h0), (1, .int x1_25), (2, .int x2_25), (3, .int r82)] → W p l e r9_findFewest s m args below meth c H locs 0 0 Q (F0 m 123 ls [])) → W p l e r9_findFewest s m args below meth c H locs 0 0 Q (F0 m 89 ls []) := by
                  intro n89
                  induction n89 with
                  | zero =>
                    intro x4_89 v_bestMan_89 v_bestMan_e89 H locs ls hM
                    exact absurd hM (by simp [f9_findFewest_L89])
                  | succ n89 ih89 =>
                    intro x4_89 v_bestMan_89 v_bestMan_e89 H locs ls hM hP hD hS hl K
                    rw [f9_findFewest_L89] at hM
                    refine lv_iload hx hb dX9_findFewest_89 (lv_at hl 4 rfl) ?_
                    refine lv_aload_n hx hb dX9_findFewest_91 rfl (lv_at hl 0 rfl) ?_
                    refine va_get (D := D) (ci := 9) (v := .int v_lines) (C := RX9) (T := TX9) (N := 38) hx hb hts iX9 hown hK hP 0 rfl rfl 35 (by decide) k165 (fun _ h9 => h9) rfl dX9_findFewest_92 ?_
                    refine lv_icmp_ge (tgt := 123) hx hb dX9_findFewest_95 (by decide) (fun c95 => ?_) (fun c95 => ?_)
                    · have hM := g_pos c95 hM
                      obtain rfl := si1 hM
                      exact K _ _ _ hP hD hS (lv_sub hl [0, 1, 2, 3] rfl)
                    · have hM := g_neg c95 hM
                      refine lv_iload_n hx hb dX9_findFewest_98 rfl (lv_at hl 3 rfl) ?_
                      refine lv_iload_n hx hb dX9_findFewest_99 rfl (lv_at hl 1 rfl) ?_
                      refine lv_icmp_ge (tgt := 123) hx hb dX9_findFewest_100 (by decide) (fun c100 => ?_) (fun c100 => ?_)
                      · have hM := g_pos c100 hM
                        obtain rfl := si1 hM
                        exact K _ _ _ hP hD hS (lv_sub hl [0, 1, 2, 3] rfl)
                      · have hM := g_neg c100 hM
                        refine lv_aload_n hx hb dX9_findFewest_103 rfl (lv_at hl 0 rfl) ?_
                        refine va_get (D := D) (ci := 9) (v := .ref h0_bestMan) (C := RX9) (T := TX9) (N := 38) hx hb hts iX9 hown hK hP 0 rfl rfl 37 (by decide) k88 (fun _ h9 => h9) rfl dX9_findFewest_104 ?_
                        refine lv_iload hx hb dX9_findFewest_107 (lv_at hl 4 rfl) ?_
                        refine lv_aload_n hx hb dX9_findFewest_109 rfl (lv_at hl 0 rfl) ?_
                        refine va_get (D := D) (ci := 9) (v := .ref h0_man) (C := RX9) (T := TX9) (N := 38) hx hb hts iX9 hown hK hP 0 rfl rfl 36 (by decide) k85 (fun _ h9 => h9) rfl dX9_findFewest_110 ?_
                        refine lv_iload hx hb dX9_findFewest_113 (lv_at hl 4 rfl) ?_
                        obtain ⟨h115, hM⟩ := gi_some hM
                        refine va_iald hx hb hK hP 3 2 rfl rfl h115 dX9_findFewest_115 ?_
                        obtain ⟨h116, hM⟩ := gi_some hM
                        refine va_iast hx hb hK hP hD hS 4 2 rfl rfl h116 dX9_findFewest_116 (fun H locs hP hD hS => ?_)
                        have hP : va_P D vwCl [(h0, .inr (9, [oh0_0, oh0_1, oh0_2, oh0_3, oh0_4, oh0_5, oh0_6, oh0_7, oh0_8, oh0_9, oh0_10, oh0_11, oh0_12, oh0_13, oh0_14, oh0_15, oh0_16, oh0_17, oh0_18, oh0_19, oh0_20, oh0_21, oh0_22, oh0_23, oh0_24, oh0_25, oh0_26, oh0_27, oh0_28, oh0_29, oh0_30, oh0_31, oh0_32, .ref h0_lineDate, .ref h0_lineAge, .int v_lines, .ref h0_man, .ref h0_bestMan])), (h0_lineDate, .inl (cy 2, 8, .inl v_lineDate)), (h0_lineAge, .inl (cy 2, 8, .inl v_lineAge)), (h0_man, .inl (cy 2, 8, .inl (upd v_man_25 x2_25.toNatClampNeg ((v_man_25 x2_25.toNatClampNeg) + (1 : Int32))))), (h0_bestMan, .inl (cy 2, 8, .inl (upd v_bestMan_89 x4_89.toNatClampNeg ((upd v_man_25 x2_25.toNatClampNeg ((v_man_25 x2_25.toNatClampNeg) + (1 : Int32))) x4_89.toNatClampNeg))))] H := hP
                        have hD : va_D A [(h0, .inr (9, [oh0_0, oh0_1, oh0_2, oh0_3, oh0_4, oh0_5, oh0_6, oh0_7, oh0_8, oh0_9, oh0_10, oh0_11, oh0_12, oh0_13, oh0_14, oh0_15, oh0_16, oh0_17, oh0_18, oh0_19, oh0_20, oh0_21, oh0_22, oh0_23, oh0_24, oh0_25, oh0_26, oh0_27, oh0_28, oh0_29, oh0_30, oh0_31, oh0_32, .ref h0_lineDate, .ref h0_lineAge, .int v_lines, .ref h0_man, .ref h0_bestMan])), (h0_lineDate, .inl (cy 2, 8, .inl v_lineDate)), (h0_lineAge, .inl (cy 2, 8, .inl v_lineAge)), (h0_man, .inl (cy 2, 8, .inl (upd v_man_25 x2_25.toNatClampNeg ((v_man_25 x2_25.toNatClampNeg) + (1 : Int32))))), (h0_bestMan, .inl (cy 2, 8, .inl (upd v_bestMan_89 x4_89.toNatClampNeg ((upd v_man_25 x2_25.toNatClampNeg ((v_man_25 x2_25.toNatClampNeg) + (1 : Int32))) x4_89.toNatClampNeg))))] := hD
                        refine lv_iinc (v := x4_89 + (1 : Int32)) (lv' := [(4, .int (x4_89 + (1 : Int32))), (0, .ref h0), (1, .int x1_25), (2, .int x2_25), (3, .int r82)]) hx hb dX9_findFewest_117 hl (k := 4) rfl rfl (by decide) rfl (fun ls hl => ?_)
                        refine lv_goto (tgt := 89) hx hb dX9_findFewest_120 (by decide) ?_
                        exact ih89 (x4_89 + (1 : Int32)) (upd v_bestMan_89 x4_89.toNatClampNeg ((upd v_man_25 x2_25.toNatClampNeg ((v_man_25 x2_25.toNatClampNeg) + (1 : Int32))) x4_89.toNatClampNeg)) v_bestMan_e89 _ _ _ hM hP hD hS (lv_sub hl [1, 2, 3, 4, 0] rfl) K
                obtain ⟨v_bestMan_e89, hL89, hM⟩ := ob1_some hM
                refine L89 N (0 : Int32) v_bestMan_25 v_bestMan_e89 _ _ _ hL89 hP hD hS (lv_sub hl [2, 3, 4, 1, 0] rfl) ?_
                intro H locs ls hP hD hS hl
                refine lv_iload_n hx hb dX9_findFewest_123 rfl (lv_at hl 3 rfl) ?_
                refine lv_iload_n hx hb dX9_findFewest_124 rfl (lv_at hl 1 rfl) ?_
                refine lv_icmp_ge (tgt := 132) hx hb dX9_findFewest_125 (by decide) (fun c125 => ?_) (fun c125 => ?_)
                · have hM := g_pos c125 hM
                  refine lv_iload_n hx hb dX9_findFewest_132 rfl (lv_at hl 1 rfl) ?_
                  refine lv_istore_n (lv' := [(1, .int x1_25), (0, .ref h0), (2, .int x2_25), (3, .int r82)]) hx hb dX9_findFewest_133 rfl hl (by decide) rfl (fun ls hl => ?_)
                  refine lv_goto (tgt := 25) hx hb dX9_findFewest_134 (by decide) ?_
                  exact ih25 x1_25 x2_25 (upd v_man_25 x2_25.toNatClampNeg ((v_man_25 x2_25.toNatClampNeg) + (1 : Int32))) v_bestMan_e89 e1_25 v_man_e25 v_bestMan_e25 _ _ _ hM hP hD hS (lv_sub hl [1, 0, 2] rfl) K
                · have hM := g_neg c125 hM
                  refine lv_iload_n hx hb dX9_findFewest_128 rfl (lv_at hl 3 rfl) ?_
                  refine lv_goto (tgt := 133) hx hb dX9_findFewest_129 (by decide) ?_
                  refine lv_istore_n (lv' := [(1, .int r82), (0, .ref h0), (2, .int x2_25), (3, .int r82)]) hx hb dX9_findFewest_133 rfl hl (by decide) rfl (fun ls hl => ?_)
                  refine lv_goto (tgt := 25) hx hb dX9_findFewest_134 (by decide) ?_
                  exact ih25 r82 x2_25 (upd v_man_25 x2_25.toNatClampNeg ((v_man_25 x2_25.toNatClampNeg) + (1 : Int32))) v_bestMan_e89 e1_25 v_man_e25 v_bestMan_e25 _ _ _ hM hP hD hS (lv_sub hl [1, 0, 2] rfl) K
          · have hM := g_neg c50 hM
            refine lv_iinc (v := x2_25 + (-1 : Int32)) (lv' := [(2, .int (x2_25 + (-1 : Int32))), (0, .ref h0), (1, .int x1_25)]) hx hb dX9_findFewest_53 hl (k := 2) rfl rfl (by decide) rfl (fun ls hl => ?_)
            refine lv_goto (tgt := 25) hx hb dX9_findFewest_56 (by decide) ?_
            exact ih25 x1_25 (x2_25 + (-1 : Int32)) (upd v_man_25 x2_25.toNatClampNeg ((v_man_25 x2_25.toNatClampNeg) + (1 : Int32))) v_bestMan_25 e1_25 v_man_e25 v_bestMan_e25 _ _ _ hM hP hD hS (lv_sub hl [1, 2, 0] rfl) K
    obtain ⟨e1_25, v_man_e25, v_bestMan_e25, hL25, hM⟩ := ob3_some hM
    refine L25 N (v_lines + (1 : Int32)) (0 : Int32) (upd v_man (0 : Int32).toNatClampNeg (-1 : Int32)) v_bestMan e1_25 v_man_e25 v_bestMan_e25 _ _ _ hL25 hP hD hS (lv_sub hl [2, 1, 0] rfl) ?_
    intro H locs ls hP hD hS hl
    refine lv_iload_n hx hb dX9_findFewest_150 rfl (lv_at hl 0 rfl) ?_
    obtain ⟨rfl, rfl, rfl⟩ := si3 hM
    exact hret _ _ _ _ _ dX9_findFewest_151 rfl rfl hP hD hS
  · have hM := g_pos c13 hM
    refine lv_iconst (v := 0) hx hb dX9_findFewest_16 (by decide) ?_
    obtain ⟨rfl, rfl, rfl⟩ := si3 hM
    exact hret _ _ _ _ _ dX9_findFewest_17 rfl rfl hP hD hS
