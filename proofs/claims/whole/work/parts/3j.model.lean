-- ===== X9_passBy passBy (I)V =====
abbrev r9_passBy : Room := { frames := 1, cells := 0, slots := 0, locals := 23 }
def f9_passBy_L32 (N : Nat) (v_persons : Nat → Int32) (v_interest : Nat → Int32) : Nat → Int32 → (Nat → Int32) → Option (Nat → Int32)
  | 0, _, _ => none
  | n + 1, x4_32, v_now_32 => gi (0 : Int32) 2 (if (v_persons (0 : Int32).toNatClampNeg) ≤ x4_32 then (some v_now_32) else (gi ((7 : Int32) + x4_32) 60 (ob1 (f9_grown N (v_now_32 ((7 : Int32) + x4_32).toNatClampNeg) v_interest) fun r63 => gi ((7 : Int32) + x4_32) 60 ((f9_passBy_L32 N v_persons v_interest n) (x4_32 + (1 : Int32)) (upd v_now_32 ((7 : Int32) + x4_32).toNatClampNeg r63)))))
def f9_passBy_L21 (N : Nat) (p1 : Int32) (v_persons : Nat → Int32) (v_interest : Nat → Int32) (v_now : Nat → Int32) : Nat → Int32 → (Nat → Int32) → Option (Nat → Int32)
  | 0, _, _ => none
  | n + 1, x3_21, v_now_21 => if (((v_now (0 : Int32).toNatClampNeg) + p1) / (60 : Int32)) < x3_21 then (some v_now_21) else (ob1 (f9_passBy_L32 N v_persons v_interest N (0 : Int32) v_now_21) fun v_now_e32 => (f9_passBy_L21 N p1 v_persons v_interest v_now n) (x3_21 + (1 : Int32)) v_now_e32)
def f9_passBy_J127 (N : Nat) (p1 : Int32) (v_now : Nat → Int32) (x3_81 : Int32) (v_now_81 : Nat → Int32) (rec81 : Int32 → (Nat → Int32) → Option (Nat → Int32)) (s0_127 : Int32) : Option (Nat → Int32) :=
  gi ((1 : Int32) + x3_81) 60 (if ((v_now (0 : Int32).toNatClampNeg) + p1) ≤ s0_127 then (gi ((1 : Int32) + x3_81) 60 (rec81 (x3_81 + (1 : Int32)) (upd v_now_81 ((1 : Int32) + x3_81).toNatClampNeg ((v_now_81 ((1 : Int32) + x3_81).toNatClampNeg) + (0 : Int32))))) else (gi ((1 : Int32) + x3_81) 60 (rec81 (x3_81 + (1 : Int32)) (upd v_now_81 ((1 : Int32) + x3_81).toNatClampNeg ((v_now_81 ((1 : Int32) + x3_81).toNatClampNeg) + (((v_now (0 : Int32).toNatClampNeg) + p1) - s0_127))))))
def f9_passBy_L81 (N : Nat) (p1 : Int32) (v_persons : Nat → Int32) (v_now : Nat → Int32) : Nat → Int32 → (Nat → Int32) → Option (Nat → Int32)
  | 0, _, _ => none
  | n + 1, x3_81, v_now_81 => gi (0 : Int32) 2 (if (v_persons (0 : Int32).toNatClampNeg) ≤ x3_81 then (some v_now_81) else (gi ((13 : Int32) + x3_81) 60 (gi (0 : Int32) 60 (if (v_now_81 ((13 : Int32) + x3_81).toNatClampNeg) ≤ (v_now_81 (0 : Int32).toNatClampNeg) then (gi (0 : Int32) 60 (f9_passBy_J127 N p1 v_now x3_81 v_now_81 (f9_passBy_L81 N p1 v_persons v_now n) (v_now_81 (0 : Int32).toNatClampNeg))) else (gi ((13 : Int32) + x3_81) 60 (f9_passBy_J127 N p1 v_now x3_81 v_now_81 (f9_passBy_L81 N p1 v_persons v_now n) (v_now_81 ((13 : Int32) + x3_81).toNatClampNeg)))))))
def f9_passBy (N : Nat) (p1 : Int32) (v_persons : Nat → Int32) (v_interest : Nat → Int32) (v_now : Nat → Int32) : Option (Nat → Int32) :=
  gi (0 : Int32) 60 (gi (0 : Int32) 60 (ob1 (f9_passBy_L21 N p1 v_persons v_interest v_now N (((v_now (0 : Int32).toNatClampNeg) / (60 : Int32)) + (1 : Int32)) v_now) fun v_now_e21 => ob1 (f9_passBy_L81 N p1 v_persons v_now N (0 : Int32) v_now_e21) fun v_now_e81 => gi (0 : Int32) 60 (some (upd v_now_e81 (0 : Int32).toNatClampNeg ((v_now (0 : Int32).toNatClampNeg) + p1)))))
set_option maxHeartbeats 4000000 in
set_option maxRecDepth 100000 in
theorem c9_passBy (l : Launch) (D : va_G) (cy : Nat → ClassId) (N : Nat) (h0 h0_persons h0_interest h0_now : Nat) (oh0_0 oh0_1 oh0_2 oh0_3 oh0_4 oh0_5 oh0_6 oh0_7 oh0_9 oh0_10 oh0_12 oh0_13 oh0_14 oh0_15 oh0_16 oh0_17 oh0_18 oh0_19 oh0_20 oh0_21 oh0_23 oh0_24 oh0_25 oh0_26 oh0_27 oh0_28 oh0_29 oh0_30 oh0_31 oh0_32 oh0_33 oh0_34 oh0_35 oh0_36 oh0_37 : Value) (p1 : Int32) (v_persons : Nat → Int32) (v_interest : Nat → Int32) (v_now : Nat → Int32) (nv_now : Nat → Int32) (hM : f9_passBy N p1 v_persons v_interest v_now = some nv_now) (sz : Nat) : CTv l yX9_passBy wsX9_passBy r9_passBy [.ref h0, .int p1] D cy sz [(h0, .inr (9, [oh0_0, oh0_1, oh0_2, oh0_3, oh0_4, oh0_5, oh0_6, oh0_7, .ref h0_persons, oh0_9, oh0_10, .ref h0_interest, oh0_12, oh0_13, oh0_14, oh0_15, oh0_16, oh0_17, oh0_18, oh0_19, oh0_20, oh0_21, .ref h0_now, oh0_23, oh0_24, oh0_25, oh0_26, oh0_27, oh0_28, oh0_29, oh0_30, oh0_31, oh0_32, oh0_33, oh0_34, oh0_35, oh0_36, oh0_37])), (h0_persons, .inl (cy 2, 2, .inl v_persons)), (h0_interest, .inl (cy 2, 2, .inl v_interest)), (h0_now, .inl (cy 2, 60, .inl v_now))] [(h0, .inr (9, [oh0_0, oh0_1, oh0_2, oh0_3, oh0_4, oh0_5, oh0_6, oh0_7, .ref h0_persons, oh0_9, oh0_10, .ref h0_interest, oh0_12, oh0_13, oh0_14, oh0_15, oh0_16, oh0_17, oh0_18, oh0_19, oh0_20, oh0_21, .ref h0_now, oh0_23, oh0_24, oh0_25, oh0_26, oh0_27, oh0_28, oh0_29, oh0_30, oh0_31, oh0_32, oh0_33, oh0_34, oh0_35, oh0_36, oh0_37])), (h0_persons, .inl (cy 2, 2, .inl v_persons)), (h0_interest, .inl (cy 2, 2, .inl v_interest)), (h0_now, .inl (cy 2, 60, .inl nv_now))] := by
  unfold f9_passBy at hM
  refine ct_ov (cc := cX9_passBy) (maxL := 5)  (by decide +kernel) rfl (Nat.le_of_ble_eq_true rfl) (lv0 := [(0, .ref h0), (1, .int p1)]) rfl ?_
  intro p e s m args below meth c A Q ls hx hb hts hown hml hK hP hD hS hA hret hl
  have hown : s.vm.findClass RX9 = some m.cls := hown
  have k50 := hts (.fieldLink RX9 50 "CaveYearsModel" "now" "[I") (List.mem_of_getElem? (i := 1) (by decide +kernel))
  have iX9 := (fun w h => (List.mem_cons_of_mem _ (List.mem_append_right _ h)) : ∀ w ∈ wsX90, w ∈ wsX9_passBy)
  have k29 := hts (.fieldLink RX9 29 "CaveYearsModel" "persons" "[I") (List.mem_of_getElem? (i := 2) (by decide +kernel))
  refine lv_aload_n hx hb dX9_passBy_0 rfl (lv_at hl 0 rfl) ?_
  refine va_get (D := D) (ci := 9) (v := .ref h0_now) (C := RX9) (T := TX9) (N := 38) hx hb hts iX9 hown hK hP 0 rfl rfl 22 (by decide) k50 (fun _ h9 => h9) rfl dX9_passBy_1 ?_
  refine lv_iconst (v := 0) hx hb dX9_passBy_4 (by decide) ?_
  obtain ⟨h5, hM⟩ := gi_some hM
  refine va_iald hx hb hK hP 3 2 rfl rfl h5 dX9_passBy_5 ?_
  refine lv_iload_n hx hb dX9_passBy_6 rfl (lv_at hl 1 rfl) ?_
  refine lv_iadd hx hb dX9_passBy_7 ?_
  refine lv_istore_n (lv' := [(2, .int ((v_now (0 : Int32).toNatClampNeg) + p1)), (0, .ref h0), (1, .int p1)]) hx hb dX9_passBy_8 rfl hl (by decide) rfl (fun ls hl => ?_)
  refine lv_aload_n hx hb dX9_passBy_9 rfl (lv_at hl 1 rfl) ?_
  refine va_get (D := D) (ci := 9) (v := .ref h0_now) (C := RX9) (T := TX9) (N := 38) hx hb hts iX9 hown hK hP 0 rfl rfl 22 (by decide) k50 (fun _ h9 => h9) rfl dX9_passBy_10 ?_
  refine lv_iconst (v := 0) hx hb dX9_passBy_13 (by decide) ?_
  obtain ⟨h14, hM⟩ := gi_some hM
  refine va_iald hx hb hK hP 3 2 rfl rfl h14 dX9_passBy_14 ?_
  refine lv_bipush (v := 60) hx hb dX9_passBy_15 (by decide) ?_
  refine lv_idiv hx hb dX9_passBy_17 (by decide) ?_
  refine lv_iconst (v := 1) hx hb dX9_passBy_18 (by decide) ?_
  refine lv_iadd hx hb dX9_passBy_19 ?_
  refine lv_istore_n (lv' := [(3, .int (((v_now (0 : Int32).toNatClampNeg) / (60 : Int32)) + (1 : Int32))), (2, .int ((v_now (0 : Int32).toNatClampNeg) + p1)), (0, .ref h0), (1, .int p1)]) hx hb dX9_passBy_20 rfl hl (by decide) rfl (fun ls hl => ?_)
  have L21 : ∀ (n : Nat) (x3_21 : Int32) (v_now_21 : Nat → Int32) (v_now_e21 : Nat → Int32) (H : Heap) (locs : List Loc) (ls : Array Slot), f9_passBy_L21 N p1 v_persons v_interest v_now n x3_21 v_now_21 = some v_now_e21 → va_P D vwCl [(h0, .inr (9, [oh0_0, oh0_1, oh0_2, oh0_3, oh0_4, oh0_5, oh0_6, oh0_7, .ref h0_persons, oh0_9, oh0_10, .ref h0_interest, oh0_12, oh0_13, oh0_14, oh0_15, oh0_16, oh0_17, oh0_18, oh0_19, oh0_20, oh0_21, .ref h0_now, oh0_23, oh0_24, oh0_25, oh0_26, oh0_27, oh0_28, oh0_29, oh0_30, oh0_31, oh0_32, oh0_33, oh0_34, oh0_35, oh0_36, oh0_37])), (h0_persons, .inl (cy 2, 2, .inl v_persons)), (h0_interest, .inl (cy 2, 2, .inl v_interest)), (h0_now, .inl (cy 2, 60, .inl v_now_21))] H → va_D A [(h0, .inr (9, [oh0_0, oh0_1, oh0_2, oh0_3, oh0_4, oh0_5, oh0_6, oh0_7, .ref h0_persons, oh0_9, oh0_10, .ref h0_interest, oh0_12, oh0_13, oh0_14, oh0_15, oh0_16, oh0_17, oh0_18, oh0_19, oh0_20, oh0_21, .ref h0_now, oh0_23, oh0_24, oh0_25, oh0_26, oh0_27, oh0_28, oh0_29, oh0_30, oh0_31, oh0_32, oh0_33, oh0_34, oh0_35, oh0_36, oh0_37])), (h0_persons, .inl (cy 2, 2, .inl v_persons)), (h0_interest, .inl (cy 2, 2, .inl v_interest)), (h0_now, .inl (cy 2, 60, .inl v_now_21))] → va_S A s.heap H locs → lv_has ls 5 [(0, .ref h0), (2, .int ((v_now (0 : Int32).toNatClampNeg) + p1)), (3, .int x3_21)] → (∀ (H : Heap) (locs : List Loc) (ls : Array Slot), va_P D vwCl [(h0, .inr (9, [oh0_0, oh0_1, oh0_2, oh0_3, oh0_4, oh0_5, oh0_6, oh0_7, .ref h0_persons, oh0_9, oh0_10, .ref h0_interest, oh0_12, oh0_13, oh0_14, oh0_15, oh0_16, oh0_17, oh0_18, oh0_19, oh0_20, oh0_21, .ref h0_now, oh0_23, oh0_24, oh0_25, oh0_26, oh0_27, oh0_28, oh0_29, oh0_30, oh0_31, oh0_32, oh0_33, oh0_34, oh0_35, oh0_36, oh0_37])), (h0_persons, .inl (cy 2, 2, .inl v_persons)), (h0_interest, .inl (cy 2, 2, .inl v_interest)), (h0_now, .inl (cy 2, 60, .inl v_now_e21))] H → va_D A [(h0, .inr (9, [oh0_0, oh0_1, oh0_2, oh0_3, oh0_4, oh0_5, oh0_6, oh0_7, .ref h0_persons, oh0_9, oh0_10, .ref h0_interest, oh0_12, oh0_13, oh0_14, oh0_15, oh0_16, oh0_17, oh0_18, oh0_19, oh0_20, oh0_21, .ref h0_now, oh0_23, oh0_24, oh0_25, oh0_26, oh0_27, oh0_28, oh0_29, oh0_30, oh0_31, oh0_32, oh0_33, oh0_34, oh0_35, oh0_36, oh0_37])), (h0_persons, .inl (cy 2, 2, .inl v_persons)), (h0_interest, .inl (cy 2, 2, .inl v_interest)), (h0_now, .inl (cy 2, 60, .inl v_now_e21))] → va_S A s.heap H locs → lv_has ls 5 [(0, .ref h0), (2, .int ((v_now (0 : Int32).toNatClampNeg) + p1))] → W p l e r9_passBy s m args below meth c H locs 0 0 Q (F0 m 79 ls [])) → W p l e r9_passBy s m args below meth c H locs 0 0 Q (F0 m 21 ls []) := by
    intro n21
    induction n21 with
    | zero =>
      intro x3_21 v_now_21 v_now_e21 H locs ls hM
      exact absurd hM (by simp [f9_passBy_L21])
    | succ n21 ih21 =>
      intro x3_21 v_now_21 v_now_e21 H locs ls hM hP hD hS hl K
      rw [f9_passBy_L21] at hM
      refine lv_iload_n hx hb dX9_passBy_21 rfl (lv_at hl 2 rfl) ?_
      refine lv_iload_n hx hb dX9_passBy_22 rfl (lv_at hl 1 rfl) ?_
      refine lv_bipush (v := 60) hx hb dX9_passBy_23 (by decide) ?_
      refine lv_idiv hx hb dX9_passBy_25 (by decide) ?_
      refine lv_icmp_gt (tgt := 79) hx hb dX9_passBy_26 (by decide) (fun c26 => ?_) (fun c26 => ?_)
      · have hM := g_pos c26 hM
        obtain rfl := si1 hM
        exact K _ _ _ hP hD hS (lv_sub hl [0, 1] rfl)
      · have hM := g_neg c26 hM
        refine lv_iconst (v := 0) hx hb dX9_passBy_29 (by decide) ?_
        refine lv_istore (lv' := [(4, .int (0 : Int32)), (0, .ref h0), (2, .int ((v_now (0 : Int32).toNatClampNeg) + p1)), (3, .int x3_21)]) hx hb dX9_passBy_30 hl (by decide) rfl (fun ls hl => ?_)
        have L32 : ∀ (n : Nat) (x4_32 : Int32) (v_now_32 : Nat → Int32) (v_now_e32 : Nat → Int32) (H : Heap) (locs : List Loc) (ls : Array Slot), f9_passBy_L32 N v_persons v_interest n x4_32 v_now_32 = some v_now_e32 → va_P D vwCl [(h0, .inr (9, [oh0_0, oh0_1, oh0_2, oh0_3, oh0_4, oh0_5, oh0_6, oh0_7, .ref h0_persons, oh0_9, oh0_10, .ref h0_interest, oh0_12, oh0_13, oh0_14, oh0_15, oh0_16, oh0_17, oh0_18, oh0_19, oh0_20, oh0_21, .ref h0_now, oh0_23, oh0_24, oh0_25, oh0_26, oh0_27, oh0_28, oh0_29, oh0_30, oh0_31, oh0_32, oh0_33, oh0_34, oh0_35, oh0_36, oh0_37])), (h0_persons, .inl (cy 2, 2, .inl v_persons)), (h0_interest, .inl (cy 2, 2, .inl v_interest)), (h0_now, .inl (cy 2, 60, .inl v_now_32))] H → va_D A [(h0, .inr (9, [oh0_0, oh0_1, oh0_2, oh0_3, oh0_4, oh0_5, oh0_6, oh0_7, .ref h0_persons, oh0_9, oh0_10, .ref h0_interest, oh0_12, oh0_13, oh0_14, oh0_15, oh0_16, oh0_17, oh0_18, oh0_19, oh0_20, oh0_21, .ref h0_now, oh0_23, oh0_24, oh0_25, oh0_26, oh0_27, oh0_28, oh0_29, oh0_30, oh0_31, oh0_32, oh0_33, oh0_34, oh0_35, oh0_36, oh0_37])), (h0_persons, .inl (cy 2, 2, .inl v_persons)), (h0_interest, .inl (cy 2, 2, .inl v_interest)), (h0_now, .inl (cy 2, 60, .inl v_now_32))] → va_S A s.heap H locs → lv_has ls 5 [(0, .ref h0), (2, .int ((v_now (0 : Int32).toNatClampNeg) + p1)), (3, .int x3_21), (4, .int x4_32)] → (∀ (H : Heap) (locs : List Loc) (ls : Array Slot), va_P D vwCl [(h0, .inr (9, [oh0_0, oh0_1, oh0_2, oh0_3, oh0_4, oh0_5, oh0_6, oh0_7, .ref h0_persons, oh0_9, oh0_10, .ref h0_interest, oh0_12, oh0_13, oh0_14, oh0_15, oh0_16, oh0_17, oh0_18, oh0_19, oh0_20, oh0_21, .ref h0_now, oh0_23, oh0_24, oh0_25, oh0_26, oh0_27, oh0_28, oh0_29, oh0_30, oh0_31, oh0_32, oh0_33, oh0_34, oh0_35, oh0_36, oh0_37])), (h0_persons, .inl (cy 2, 2, .inl v_persons)), (h0_interest, .inl (cy 2, 2, .inl v_interest)), (h0_now, .inl (cy 2, 60, .inl v_now_e32))] H → va_D A [(h0, .inr (9, [oh0_0, oh0_1, oh0_2, oh0_3, oh0_4, oh0_5, oh0_6, oh0_7, .ref h0_persons, oh0_9, oh0_10, .ref h0_interest, oh0_12, oh0_13, oh0_14, oh0_15, oh0_16, oh0_17, oh0_18, oh0_19, oh0_20, oh0_21, .ref h0_now, oh0_23, oh0_24, oh0_25, oh0_26, oh0_27, oh0_28, oh0_29, oh0_30, oh0_31, oh0_32, oh0_33, oh0_34, oh0_35, oh0_36, oh0_37])), (h0_persons, .inl (cy 2, 2, .inl v_persons)), (h0_interest, .inl (cy 2, 2, .inl v_interest)), (h0_now, .inl (cy 2, 60, .inl v_now_e32))] → va_S A s.heap H locs → lv_has ls 5 [(0, .ref h0), (2, .int ((v_now (0 : Int32).toNatClampNeg) + p1)), (3, .int x3_21)] → W p l e r9_passBy s m args below meth c H locs 0 0 Q (F0 m 73 ls [])) → W p l e r9_passBy s m args below meth c H locs 0 0 Q (F0 m 32 ls []) := by
          intro n32
          induction n32 with
          | zero =>
            intro x4_32 v_now_32 v_now_e32 H locs ls hM
            exact absurd hM (by simp [f9_passBy_L32])
          | succ n32 ih32 =>
            intro x4_32 v_now_32 v_now_e32 H locs ls hM hP hD hS hl K
            rw [f9_passBy_L32] at hM
            refine lv_iload hx hb dX9_passBy_32 (lv_at hl 3 rfl) ?_
            refine lv_aload_n hx hb dX9_passBy_34 rfl (lv_at hl 0 rfl) ?_
            refine va_get (D := D) (ci := 9) (v := .ref h0_persons) (C := RX9) (T := TX9) (N := 38) hx hb hts iX9 hown hK hP 0 rfl rfl 8 (by decide) k29 (fun _ h9 => h9) rfl dX9_passBy_35 ?_
            refine lv_iconst (v := 0) hx hb dX9_passBy_38 (by decide) ?_
            obtain ⟨h39, hM⟩ := gi_some hM
            refine va_iald hx hb hK hP 1 2 rfl rfl h39 dX9_passBy_39 ?_
            refine lv_icmp_ge (tgt := 73) hx hb dX9_passBy_40 (by decide) (fun c40 => ?_) (fun c40 => ?_)
            · have hM := g_pos c40 hM
              obtain rfl := si1 hM
              exact K _ _ _ hP hD hS (lv_sub hl [0, 1, 2] rfl)
            · have hM := g_neg c40 hM
              refine lv_aload_n hx hb dX9_passBy_43 rfl (lv_at hl 0 rfl) ?_
              refine va_get (D := D) (ci := 9) (v := .ref h0_now) (C := RX9) (T := TX9) (N := 38) hx hb hts iX9 hown hK hP 0 rfl rfl 22 (by decide) k50 (fun _ h9 => h9) rfl dX9_passBy_44 ?_
              refine lv_bipush (v := 7) hx hb dX9_passBy_47 (by decide) ?_
              refine lv_iload hx hb dX9_passBy_49 (lv_at hl 3 rfl) ?_
              refine lv_iadd hx hb dX9_passBy_51 ?_
              refine lv_aload_n hx hb dX9_passBy_52 rfl (lv_at hl 0 rfl) ?_
              refine lv_aload_n hx hb dX9_passBy_53 rfl (lv_at hl 0 rfl) ?_
              refine va_get (D := D) (ci := 9) (v := .ref h0_now) (C := RX9) (T := TX9) (N := 38) hx hb hts iX9 hown hK hP 0 rfl rfl 22 (by decide) k50 (fun _ h9 => h9) rfl dX9_passBy_54 ?_
              refine lv_bipush (v := 7) hx hb dX9_passBy_57 (by decide) ?_
              refine lv_iload hx hb dX9_passBy_59 (lv_at hl 3 rfl) ?_
              refine lv_iadd hx hb dX9_passBy_61 ?_
              obtain ⟨h62, hM⟩ := gi_some hM
              refine va_iald hx hb hK hP 3 2 rfl rfl h62 dX9_passBy_62 ?_
              obtain ⟨r63, hc63, hM⟩ := ob1_some hM
              refine cl_vi (As := [.int (v_now_32 ((7 : Int32) + x4_32).toNatClampNeg)]) (rest := [.int ((7 : Int32) + x4_32), .ref h0_now]) (ci := 9) (q0 := 0) (wr := [(h0_persons, .inl (cy 2, 2, .inl v_persons)), (h0_now, .inl (cy 2, 60, .inl v_now_32))]) (ws2 := [(h0, .inr (9, [oh0_0, oh0_1, oh0_2, oh0_3, oh0_4, oh0_5, oh0_6, oh0_7, .ref h0_persons, oh0_9, oh0_10, .ref h0_interest, oh0_12, oh0_13, oh0_14, oh0_15, oh0_16, oh0_17, oh0_18, oh0_19, oh0_20, oh0_21, .ref h0_now, oh0_23, oh0_24, oh0_25, oh0_26, oh0_27, oh0_28, oh0_29, oh0_30, oh0_31, oh0_32, oh0_33, oh0_34, oh0_35, oh0_36, oh0_37])), (h0_persons, .inl (cy 2, 2, .inl v_persons)), (h0_interest, .inl (cy 2, 2, .inl v_interest)), (h0_now, .inl (cy 2, 60, .inl v_now_32))]) (isC := [0, 2]) (isR := [1, 3]) (pm := [2, 0, 3, 1]) hx hb hml hown hts (c9_grown l D cy N h0 h0_interest oh0_0 oh0_1 oh0_2 oh0_3 oh0_4 oh0_5 oh0_6 oh0_7 (.ref h0_persons) oh0_9 oh0_10 oh0_12 oh0_13 oh0_14 oh0_15 oh0_16 oh0_17 oh0_18 oh0_19 oh0_20 oh0_21 (.ref h0_now) oh0_23 oh0_24 oh0_25 oh0_26 oh0_27 oh0_28 oh0_29 oh0_30 oh0_31 oh0_32 oh0_33 oh0_34 oh0_35 oh0_36 oh0_37 (v_now_32 ((7 : Int32) + x4_32).toNatClampNeg) v_interest r63 hc63) (cwV 1 hts gX9_passBy_X9_grown rfl rfl rfl (by decide +kernel) ⟨Nat.le_of_ble_eq_true rfl, Nat.le_of_ble_eq_true rfl⟩) hK hP hD hS hA rfl rfl rfl rfl rfl (by decide) rfl rfl rfl hl.1 (Nat.le_of_ble_eq_true rfl) dX9_passBy_63 ⟨Nat.zero_le _, Nat.zero_le _⟩ rfl rfl (fun H locs hP hD hS => ?_)
              obtain ⟨h66, hM⟩ := gi_some hM
              refine va_iast hx hb hK hP hD hS 3 2 rfl rfl h66 dX9_passBy_66 (fun H locs hP hD hS => ?_)
              have hP : va_P D vwCl [(h0, .inr (9, [oh0_0, oh0_1, oh0_2, oh0_3, oh0_4, oh0_5, oh0_6, oh0_7, .ref h0_persons, oh0_9, oh0_10, .ref h0_interest, oh0_12, oh0_13, oh0_14, oh0_15, oh0_16, oh0_17, oh0_18, oh0_19, oh0_20, oh0_21, .ref h0_now, oh0_23, oh0_24, oh0_25, oh0_26, oh0_27, oh0_28, oh0_29, oh0_30, oh0_31, oh0_32, oh0_33, oh0_34, oh0_35, oh0_36, oh0_37])), (h0_persons, .inl (cy 2, 2, .inl v_persons)), (h0_interest, .inl (cy 2, 2, .inl v_interest)), (h0_now, .inl (cy 2, 60, .inl (upd v_now_32 ((7 : Int32) + x4_32).toNatClampNeg r63)))] H := hP
              have hD : va_D A [(h0, .inr (9, [oh0_0, oh0_1, oh0_2, oh0_3, oh0_4, oh0_5, oh0_6, oh0_7, .ref h0_persons, oh0_9, oh0_10, .ref h0_interest, oh0_12, oh0_13, oh0_14, oh0_15, oh0_16, oh0_17, oh0_18, oh0_19, oh0_20, oh0_21, .ref h0_now, oh0_23, oh0_24, oh0_25, oh0_26, oh0_27, oh0_28, oh0_29, oh0_30, oh0_31, oh0_32, oh0_33, oh0_34, oh0_35, oh0_36, oh0_37])), (h0_persons, .inl (cy 2, 2, .inl v_persons)), (h0_interest, .inl (cy 2, 2, .inl v_interest)), (h0_now, .inl (cy 2, 60, .inl (upd v_now_32 ((7 : Int32) + x4_32).toNatClampNeg r63)))] := hD
              refine lv_iinc (v := x4_32 + (1 : Int32)) (lv' := [(4, .int (x4_32 + (1 : Int32))), (0, .ref h0), (2, .int ((v_now (0 : Int32).toNatClampNeg) + p1)), (3, .int x3_21)]) hx hb dX9_passBy_67 hl (k := 3) rfl rfl (by decide) rfl (fun ls hl => ?_)
              refine lv_goto (tgt := 32) hx hb dX9_passBy_70 (by decide) ?_
              exact ih32 (x4_32 + (1 : Int32)) (upd v_now_32 ((7 : Int32) + x4_32).toNatClampNeg r63) v_now_e32 _ _ _ hM hP hD hS (lv_sub hl [1, 2, 3, 0] rfl) K
        obtain ⟨v_now_e32, hL32, hM⟩ := ob1_some hM
        refine L32 N (0 : Int32) v_now_21 v_now_e32 _ _ _ hL32 hP hD hS (lv_sub hl [1, 2, 3, 0] rfl) ?_
        intro H locs ls hP hD hS hl
        refine lv_iinc (v := x3_21 + (1 : Int32)) (lv' := [(3, .int (x3_21 + (1 : Int32))), (0, .ref h0), (2, .int ((v_now (0 : Int32).toNatClampNeg) + p1))]) hx hb dX9_passBy_73 hl (k := 2) rfl rfl (by decide) rfl (fun ls hl => ?_)
        refine lv_goto (tgt := 21) hx hb dX9_passBy_76 (by decide) ?_
        exact ih21 (x3_21 + (1 : Int32)) v_now_e32 v_now_e21 _ _ _ hM hP hD hS (lv_sub hl [1, 2, 0] rfl) K
  obtain ⟨v_now_e21, hL21, hM⟩ := ob1_some hM
  refine L21 N (((v_now (0 : Int32).toNatClampNeg) / (60 : Int32)) + (1 : Int32)) v_now v_now_e21 _ _ _ hL21 hP hD hS (lv_sub hl [2, 1, 0] rfl) ?_
  intro H locs ls hP hD hS hl
  refine lv_iconst (v := 0) hx hb dX9_passBy_79 (by decide) ?_
  refine lv_istore_n (lv' := [(3, .int (0 : Int32)), (0, .ref h0), (2, .int ((v_now (0 : Int32).toNatClampNeg) + p1))]) hx hb dX9_passBy_80 rfl hl (by decide) rfl (fun ls hl => ?_)
  have L81 : ∀ (n : Nat) (x3_81 : Int32) (v_now_81 : Nat → Int32) (v_now_e81 : Nat → Int32) (H : Heap) (locs : List Loc) (ls : Array Slot), f9_passBy_L81 N p1 v_persons v_now n x3_81 v_now_81 = some v_now_e81 → va_P D vwCl [(h0, .inr (9, [oh0_0, oh0_1, oh0_2, oh0_3, oh0_4, oh0_5, oh0_6, oh0_7, .ref h0_persons, oh0_9, oh0_10, .ref h0_interest, oh0_12, oh0_13, oh0_14, oh0_15, oh0_16, oh0_17, oh0_18, oh0_19, oh0_20, oh0_21, .ref h0_now, oh0_23, oh0_24, oh0_25, oh0_26, oh0_27, oh0_28, oh0_29, oh0_30, oh0_31, oh0_32, oh0_33, oh0_34, oh0_35, oh0_36, oh0_37])), (h0_persons, .inl (cy 2, 2, .inl v_persons)), (h0_interest, .inl (cy 2, 2, .inl v_interest)), (h0_now, .inl (cy 2, 60, .inl v_now_81))] H → va_D A [(h0, .inr (9, [oh0_0, oh0_1, oh0_2, oh0_3, oh0_4, oh0_5, oh0_6, oh0_7, .ref h0_persons, oh0_9, oh0_10, .ref h0_interest, oh0_12, oh0_13, oh0_14, oh0_15, oh0_16, oh0_17, oh0_18, oh0_19, oh0_20, oh0_21, .ref h0_now, oh0_23, oh0_24, oh0_25, oh0_26, oh0_27, oh0_28, oh0_29, oh0_30, oh0_31, oh0_32, oh0_33, oh0_34, oh0_35, oh0_36, oh0_37])), (h0_persons, .inl (cy 2, 2, .inl v_persons)), (h0_interest, .inl (cy 2, 2, .inl v_interest)), (h0_now, .inl (cy 2, 60, .inl v_now_81))] → va_S A s.heap H locs → lv_has ls 5 [(0, .ref h0), (2, .int ((v_now (0 : Int32).toNatClampNeg) + p1)), (3, .int x3_81)] → (∀ (H : Heap) (locs : List Loc) (ls : Array Slot), va_P D vwCl [(h0, .inr (9, [oh0_0, oh0_1, oh0_2, oh0_3, oh0_4, oh0_5, oh0_6, oh0_7, .ref h0_persons, oh0_9, oh0_10, .ref h0_interest, oh0_12, oh0_13, oh0_14, oh0_15, oh0_16, oh0_17, oh0_18, oh0_19, oh0_20, oh0_21, .ref h0_now, oh0_23, oh0_24, oh0_25, oh0_26, oh0_27, oh0_28, oh0_29, oh0_30, oh0_31, oh0_32, oh0_33, oh0_34, oh0_35, oh0_36, oh0_37])), (h0_persons, .inl (cy 2, 2, .inl v_persons)), (h0_interest, .inl (cy 2, 2, .inl v_interest)), (h0_now, .inl (cy 2, 60, .inl v_now_e81))] H → va_D A [(h0, .inr (9, [oh0_0, oh0_1, oh0_2, oh0_3, oh0_4, oh0_5, oh0_6, oh0_7, .ref h0_persons, oh0_9, oh0_10, .ref h0_interest, oh0_12, oh0_13, oh0_14, oh0_15, oh0_16, oh0_17, oh0_18, oh0_19, oh0_20, oh0_21, .ref h0_now, oh0_23, oh0_24, oh0_25, oh0_26, oh0_27, oh0_28, oh0_29, oh0_30, oh0_31, oh0_32, oh0_33, oh0_34, oh0_35, oh0_36, oh0_37])), (h0_persons, .inl (cy 2, 2, .inl v_persons)), (h0_interest, .inl (cy 2, 2, .inl v_interest)), (h0_now, .inl (cy 2, 60, .inl v_now_e81))] → va_S A s.heap H locs → lv_has ls 5 [(0, .ref h0), (2, .int ((v_now (0 : Int32).toNatClampNeg) + p1))] → W p l e r9_passBy s m args below meth c H locs 0 0 Q (F0 m 160 ls [])) → W p l e r9_passBy s m args below meth c H locs 0 0 Q (F0 m 81 ls []) := by
    intro n81
    induction n81 with
    | zero =>
      intro x3_81 v_now_81 v_now_e81 H locs ls hM
      exact absurd hM (by simp [f9_passBy_L81])
    | succ n81 ih81 =>
      intro x3_81 v_now_81 v_now_e81 H locs ls hM hP hD hS hl K
      rw [f9_passBy_L81] at hM
      refine lv_iload_n hx hb dX9_passBy_81 rfl (lv_at hl 2 rfl) ?_
      refine lv_aload_n hx hb dX9_passBy_82 rfl (lv_at hl 0 rfl) ?_
      refine va_get (D := D) (ci := 9) (v := .ref h0_persons) (C := RX9) (T := TX9) (N := 38) hx hb hts iX9 hown hK hP 0 rfl rfl 8 (by decide) k29 (fun _ h9 => h9) rfl dX9_passBy_83 ?_
      refine lv_iconst (v := 0) hx hb dX9_passBy_86 (by decide) ?_
      obtain ⟨h87, hM⟩ := gi_some hM
      refine va_iald hx hb hK hP 1 2 rfl rfl h87 dX9_passBy_87 ?_
      refine lv_icmp_ge (tgt := 160) hx hb dX9_passBy_88 (by decide) (fun c88 => ?_) (fun c88 => ?_)
      · have hM := g_pos c88 hM
        obtain rfl := si1 hM
        exact K _ _ _ hP hD hS (lv_sub hl [0, 1] rfl)
      · have hM := g_neg c88 hM
        refine lv_aload_n hx hb dX9_passBy_91 rfl (lv_at hl 0 rfl) ?_
        refine va_get (D := D) (ci := 9) (v := .ref h0_now) (C := RX9) (T := TX9) (N := 38) hx hb hts iX9 hown hK hP 0 rfl rfl 22 (by decide) k50 (fun _ h9 => h9) rfl dX9_passBy_92 ?_
        refine lv_bipush (v := 13) hx hb dX9_passBy_95 (by decide) ?_
        refine lv_iload_n hx hb dX9_passBy_97 rfl (lv_at hl 2 rfl) ?_
        refine lv_iadd hx hb dX9_passBy_98 ?_
        obtain ⟨h99, hM⟩ := gi_some hM
        refine va_iald hx hb hK hP 3 2 rfl rfl h99 dX9_passBy_99 ?_
        refine lv_aload_n hx hb dX9_passBy_100 rfl (lv_at hl 0 rfl) ?_
        refine va_get (D := D) (ci := 9) (v := .ref h0_now) (C := RX9) (T := TX9) (N := 38) hx hb hts iX9 hown hK hP 0 rfl rfl 22 (by decide) k50 (fun _ h9 => h9) rfl dX9_passBy_101 ?_
        refine lv_iconst (v := 0) hx hb dX9_passBy_104 (by decide) ?_
        obtain ⟨h105, hM⟩ := gi_some hM
        refine va_iald hx hb hK hP 3 2 rfl rfl h105 dX9_passBy_105 ?_
        have K127 : ∀ (s0_127 : Int32) (H : Heap) (locs : List Loc) (ls : Array Slot), f9_passBy_J127 N p1 v_now x3_81 v_now_81 (f9_passBy_L81 N p1 v_persons v_now n81) s0_127 = some v_now_e81 → va_P D vwCl [(h0, .inr (9, [oh0_0, oh0_1, oh0_2, oh0_3, oh0_4, oh0_5, oh0_6, oh0_7, .ref h0_persons, oh0_9, oh0_10, .ref h0_interest, oh0_12, oh0_13, oh0_14, oh0_15, oh0_16, oh0_17, oh0_18, oh0_19, oh0_20, oh0_21, .ref h0_now, oh0_23, oh0_24, oh0_25, oh0_26, oh0_27, oh0_28, oh0_29, oh0_30, oh0_31, oh0_32, oh0_33, oh0_34, oh0_35, oh0_36, oh0_37])), (h0_persons, .inl (cy 2, 2, .inl v_persons)), (h0_interest, .inl (cy 2, 2, .inl v_interest)), (h0_now, .inl (cy 2, 60, .inl v_now_81))] H → va_D A [(h0, .inr (9, [oh0_0, oh0_1, oh0_2, oh0_3, oh0_4, oh0_5, oh0_6, oh0_7, .ref h0_persons, oh0_9, oh0_10, .ref h0_interest, oh0_12, oh0_13, oh0_14, oh0_15, oh0_16, oh0_17, oh0_18, oh0_19, oh0_20, oh0_21, .ref h0_now, oh0_23, oh0_24, oh0_25, oh0_26, oh0_27, oh0_28, oh0_29, oh0_30, oh0_31, oh0_32, oh0_33, oh0_34, oh0_35, oh0_36, oh0_37])), (h0_persons, .inl (cy 2, 2, .inl v_persons)), (h0_interest, .inl (cy 2, 2, .inl v_interest)), (h0_now, .inl (cy 2, 60, .inl v_now_81))] → va_S A s.heap H locs → lv_has ls 5 [(0, .ref h0), (2, .int ((v_now (0 : Int32).toNatClampNeg) + p1)), (3, .int x3_81)] → W p l e r9_passBy s m args below meth c H locs 0 0 Q (F0 m 127 ls [.int s0_127]) := by
          intro s0_127 H locs ls hM hP hD hS hl
          unfold f9_passBy_J127 at hM
          refine lv_istore (lv' := [(4, .int s0_127), (0, .ref h0), (2, .int ((v_now (0 : Int32).toNatClampNeg) + p1)), (3, .int x3_81)]) hx hb dX9_passBy_127 hl (by decide) rfl (fun ls hl => ?_)
          refine lv_aload_n hx hb dX9_passBy_129 rfl (lv_at hl 1 rfl) ?_
          refine va_get (D := D) (ci := 9) (v := .ref h0_now) (C := RX9) (T := TX9) (N := 38) hx hb hts iX9 hown hK hP 0 rfl rfl 22 (by decide) k50 (fun _ h9 => h9) rfl dX9_passBy_130 ?_
          refine lv_iconst (v := 1) hx hb dX9_passBy_133 (by decide) ?_
          refine lv_iload_n hx hb dX9_passBy_134 rfl (lv_at hl 3 rfl) ?_
          refine lv_iadd hx hb dX9_passBy_135 ?_
          refine lv_dup2_11 hx hb dX9_passBy_136 rfl rfl ?_
          obtain ⟨h137, hM⟩ := gi_some hM
          refine va_iald hx hb hK hP 3 2 rfl rfl h137 dX9_passBy_137 ?_
          refine lv_iload_n hx hb dX9_passBy_138 rfl (lv_at hl 2 rfl) ?_
          refine lv_iload hx hb dX9_passBy_139 (lv_at hl 0 rfl) ?_
          refine lv_icmp_le (tgt := 151) hx hb dX9_passBy_141 (by decide) (fun c141 => ?_) (fun c141 => ?_)
          · have hM := g_pos c141 hM
            refine lv_iconst (v := 0) hx hb dX9_passBy_151 (by decide) ?_
            refine lv_iadd hx hb dX9_passBy_152 ?_
            obtain ⟨h153, hM⟩ := gi_some hM
            refine va_iast hx hb hK hP hD hS 3 2 rfl rfl h153 dX9_passBy_153 (fun H locs hP hD hS => ?_)
            have hP : va_P D vwCl [(h0, .inr (9, [oh0_0, oh0_1, oh0_2, oh0_3, oh0_4, oh0_5, oh0_6, oh0_7, .ref h0_persons, oh0_9, oh0_10, .ref h0_interest, oh0_12, oh0_13, oh0_14, oh0_15, oh0_16, oh0_17, oh0_18, oh0_19, oh0_20, oh0_21, .ref h0_now, oh0_23, oh0_24, oh0_25, oh0_26, oh0_27, oh0_28, oh0_29, oh0_30, oh0_31, oh0_32, oh0_33, oh0_34, oh0_35, oh0_36, oh0_37])), (h0_persons, .inl (cy 2, 2, .inl v_persons)), (h0_interest, .inl (cy 2, 2, .inl v_interest)), (h0_now, .inl (cy 2, 60, .inl (upd v_now_81 ((1 : Int32) + x3_81).toNatClampNeg ((v_now_81 ((1 : Int32) + x3_81).toNatClampNeg) + (0 : Int32)))))] H := hP
            have hD : va_D A [(h0, .inr (9, [oh0_0, oh0_1, oh0_2, oh0_3, oh0_4, oh0_5, oh0_6, oh0_7, .ref h0_persons, oh0_9, oh0_10, .ref h0_interest, oh0_12, oh0_13, oh0_14, oh0_15, oh0_16, oh0_17, oh0_18, oh0_19, oh0_20, oh0_21, .ref h0_now, oh0_23, oh0_24, oh0_25, oh0_26, oh0_27, oh0_28, oh0_29, oh0_30, oh0_31, oh0_32, oh0_33, oh0_34, oh0_35, oh0_36, oh0_37])), (h0_persons, .inl (cy 2, 2, .inl v_persons)), (h0_interest, .inl (cy 2, 2, .inl v_interest)), (h0_now, .inl (cy 2, 60, .inl (upd v_now_81 ((1 : Int32) + x3_81).toNatClampNeg ((v_now_81 ((1 : Int32) + x3_81).toNatClampNeg) + (0 : Int32)))))] := hD
            refine lv_iinc (v := x3_81 + (1 : Int32)) (lv' := [(3, .int (x3_81 + (1 : Int32))), (4, .int s0_127), (0, .ref h0), (2, .int ((v_now (0 : Int32).toNatClampNeg) + p1))]) hx hb dX9_passBy_154 hl (k := 3) rfl rfl (by decide) rfl (fun ls hl => ?_)
            refine lv_goto (tgt := 81) hx hb dX9_passBy_157 (by decide) ?_
            exact ih81 (x3_81 + (1 : Int32)) (upd v_now_81 ((1 : Int32) + x3_81).toNatClampNeg ((v_now_81 ((1 : Int32) + x3_81).toNatClampNeg) + (0 : Int32))) v_now_e81 _ _ _ hM hP hD hS (lv_sub hl [2, 3, 0] rfl) K
          · have hM := g_neg c141 hM
            refine lv_iload_n hx hb dX9_passBy_144 rfl (lv_at hl 2 rfl) ?_
            refine lv_iload hx hb dX9_passBy_145 (lv_at hl 0 rfl) ?_
            refine lv_isub hx hb dX9_passBy_147 ?_
            refine lv_goto (tgt := 152) hx hb dX9_passBy_148 (by decide) ?_
            refine lv_iadd hx hb dX9_passBy_152 ?_
            obtain ⟨h153, hM⟩ := gi_some hM
            refine va_iast hx hb hK hP hD hS 3 2 rfl rfl h153 dX9_passBy_153 (fun H locs hP hD hS => ?_)
            have hP : va_P D vwCl [(h0, .inr (9, [oh0_0, oh0_1, oh0_2, oh0_3, oh0_4, oh0_5, oh0_6, oh0_7, .ref h0_persons, oh0_9, oh0_10, .ref h0_interest, oh0_12, oh0_13, oh0_14, oh0_15, oh0_16, oh0_17, oh0_18, oh0_19, oh0_20, oh0_21, .ref h0_now, oh0_23, oh0_24, oh0_25, oh0_26, oh0_27, oh0_28, oh0_29, oh0_30, oh0_31, oh0_32, oh0_33, oh0_34, oh0_35, oh0_36, oh0_37])), (h0_persons, .inl (cy 2, 2, .inl v_persons)), (h0_interest, .inl (cy 2, 2, .inl v_interest)), (h0_now, .inl (cy 2, 60, .inl (upd v_now_81 ((1 : Int32) + x3_81).toNatClampNeg ((v_now_81 ((1 : Int32) + x3_81).toNatClampNeg) + (((v_now (0 : Int32).toNatClampNeg) + p1) - s0_127)))))] H := hP
            have hD : va_D A [(h0, .inr (9, [oh0_0, oh0_1, oh0_2, oh0_3, oh0_4, oh0_5, oh0_6, oh0_7, .ref h0_persons, oh0_9, oh0_10, .ref h0_interest, oh0_12, oh0_13, oh0_14, oh0_15, oh0_16, oh0_17, oh0_18, oh0_19, oh0_20, oh0_21, .ref h0_now, oh0_23, oh0_24, oh0_25, oh0_26, oh0_27, oh0_28, oh0_29, oh0_30, oh0_31, oh0_32, oh0_33, oh0_34, oh0_35, oh0_36, oh0_37])), (h0_persons, .inl (cy 2, 2, .inl v_persons)), (h0_interest, .inl (cy 2, 2, .inl v_interest)), (h0_now, .inl (cy 2, 60, .inl (upd v_now_81 ((1 : Int32) + x3_81).toNatClampNeg ((v_now_81 ((1 : Int32) + x3_81).toNatClampNeg) + (((v_now (0 : Int32).toNatClampNeg) + p1) - s0_127)))))] := hD
            refine lv_iinc (v := x3_81 + (1 : Int32)) (lv' := [(3, .int (x3_81 + (1 : Int32))), (4, .int s0_127), (0, .ref h0), (2, .int ((v_now (0 : Int32).toNatClampNeg) + p1))]) hx hb dX9_passBy_154 hl (k := 3) rfl rfl (by decide) rfl (fun ls hl => ?_)
            refine lv_goto (tgt := 81) hx hb dX9_passBy_157 (by decide) ?_
            exact ih81 (x3_81 + (1 : Int32)) (upd v_now_81 ((1 : Int32) + x3_81).toNatClampNeg ((v_now_81 ((1 : Int32) + x3_81).toNatClampNeg) + (((v_now (0 : Int32).toNatClampNeg) + p1) - s0_127))) v_now_e81 _ _ _ hM hP hD hS (lv_sub hl [2, 3, 0] rfl) K
        refine lv_icmp_le (tgt := 121) hx hb dX9_passBy_106 (by decide) (fun c106 => ?_) (fun c106 => ?_)
        · have hM := g_pos c106 hM
          refine lv_aload_n hx hb dX9_passBy_121 rfl (lv_at hl 0 rfl) ?_
          refine va_get (D := D) (ci := 9) (v := .ref h0_now) (C := RX9) (T := TX9) (N := 38) hx hb hts iX9 hown hK hP 0 rfl rfl 22 (by decide) k50 (fun _ h9 => h9) rfl dX9_passBy_122 ?_
          refine lv_iconst (v := 0) hx hb dX9_passBy_125 (by decide) ?_
          obtain ⟨h126, hM⟩ := gi_some hM
          refine va_iald hx hb hK hP 3 2 rfl rfl h126 dX9_passBy_126 ?_
          exact K127 (v_now_81 (0 : Int32).toNatClampNeg) _ _ _ hM hP hD hS (lv_sub hl [0, 1, 2] rfl)
        · have hM := g_neg c106 hM
          refine lv_aload_n hx hb dX9_passBy_109 rfl (lv_at hl 0 rfl) ?_
          refine va_get (D := D) (ci := 9) (v := .ref h0_now) (C := RX9) (T := TX9) (N := 38) hx hb hts iX9 hown hK hP 0 rfl rfl 22 (by decide) k50 (fun _ h9 => h9) rfl dX9_passBy_110 ?_
          refine lv_bipush (v := 13) hx hb dX9_passBy_113 (by decide) ?_
          refine lv_iload_n hx hb dX9_passBy_115 rfl (lv_at hl 2 rfl) ?_
          refine lv_iadd hx hb dX9_passBy_116 ?_
          obtain ⟨h117, hM⟩ := gi_some hM
          refine va_iald hx hb hK hP 3 2 rfl rfl h117 dX9_passBy_117 ?_
          refine lv_goto (tgt := 127) hx hb dX9_passBy_118 (by decide) ?_
          exact K127 (v_now_81 ((13 : Int32) + x3_81).toNatClampNeg) _ _ _ hM hP hD hS (lv_sub hl [0, 1, 2] rfl)
  obtain ⟨v_now_e81, hL81, hM⟩ := ob1_some hM
  refine L81 N (0 : Int32) v_now_e21 v_now_e81 _ _ _ hL81 hP hD hS (lv_sub hl [1, 2, 0] rfl) ?_
  intro H locs ls hP hD hS hl
  refine lv_aload_n hx hb dX9_passBy_160 rfl (lv_at hl 0 rfl) ?_
  refine va_get (D := D) (ci := 9) (v := .ref h0_now) (C := RX9) (T := TX9) (N := 38) hx hb hts iX9 hown hK hP 0 rfl rfl 22 (by decide) k50 (fun _ h9 => h9) rfl dX9_passBy_161 ?_
  refine lv_iconst (v := 0) hx hb dX9_passBy_164 (by decide) ?_
  refine lv_iload_n hx hb dX9_passBy_165 rfl (lv_at hl 1 rfl) ?_
  obtain ⟨h166, hM⟩ := gi_some hM
  refine va_iast hx hb hK hP hD hS 3 2 rfl rfl h166 dX9_passBy_166 (fun H locs hP hD hS => ?_)
  have hP : va_P D vwCl [(h0, .inr (9, [oh0_0, oh0_1, oh0_2, oh0_3, oh0_4, oh0_5, oh0_6, oh0_7, .ref h0_persons, oh0_9, oh0_10, .ref h0_interest, oh0_12, oh0_13, oh0_14, oh0_15, oh0_16, oh0_17, oh0_18, oh0_19, oh0_20, oh0_21, .ref h0_now, oh0_23, oh0_24, oh0_25, oh0_26, oh0_27, oh0_28, oh0_29, oh0_30, oh0_31, oh0_32, oh0_33, oh0_34, oh0_35, oh0_36, oh0_37])), (h0_persons, .inl (cy 2, 2, .inl v_persons)), (h0_interest, .inl (cy 2, 2, .inl v_interest)), (h0_now, .inl (cy 2, 60, .inl (upd v_now_e81 (0 : Int32).toNatClampNeg ((v_now (0 : Int32).toNatClampNeg) + p1))))] H := hP
  have hD : va_D A [(h0, .inr (9, [oh0_0, oh0_1, oh0_2, oh0_3, oh0_4, oh0_5, oh0_6, oh0_7, .ref h0_persons, oh0_9, oh0_10, .ref h0_interest, oh0_12, oh0_13, oh0_14, oh0_15, oh0_16, oh0_17, oh0_18, oh0_19, oh0_20, oh0_21, .ref h0_now, oh0_23, oh0_24, oh0_25, oh0_26, oh0_27, oh0_28, oh0_29, oh0_30, oh0_31, oh0_32, oh0_33, oh0_34, oh0_35, oh0_36, oh0_37])), (h0_persons, .inl (cy 2, 2, .inl v_persons)), (h0_interest, .inl (cy 2, 2, .inl v_interest)), (h0_now, .inl (cy 2, 60, .inl (upd v_now_e81 (0 : Int32).toNatClampNeg ((v_now (0 : Int32).toNatClampNeg) + p1))))] := hD
  obtain rfl := si1 hM
  exact hret _ _ _ _ dX9_passBy_167 hP hD hS

-- ===== X9_pass pass (I)I =====
abbrev r9_pass : Room := { frames := 2, cells := 0, slots := 0, locals := 47 }
def f9_pass (N : Nat) (p1 : Int32) (v_persons : Nat → Int32) (v_interest : Nat → Int32) (v_now : Nat → Int32) : Option (Int32 × (Nat → Int32)) :=
  ob1 (f9_in N p1 (1 : Int32) (9999 : Int32)) fun r5 => if r5 = (0 : Int32) then (some ((-1000000002 : Int32), v_now)) else (gi (0 : Int32) 60 (if ((v_now (0 : Int32).toNatClampNeg) + p1) ≤ (9999999 : Int32) then (ob1 (f9_passBy N p1 v_persons v_interest v_now) fun v_now_32 => gi (0 : Int32) 60 (some ((v_now_32 (0 : Int32).toNatClampNeg), v_now_32))) else (some ((-1000000004 : Int32), v_now))))
set_option maxHeartbeats 4000000 in
set_option maxRecDepth 100000 in
theorem c9_pass (l : Launch) (D : va_G) (cy : Nat → ClassId) (N : Nat) (h0 h0_persons h0_interest h0_now : Nat) (oh0_0 oh0_1 oh0_2 oh0_3 oh0_4 oh0_5 oh0_6 oh0_7 oh0_9 oh0_10 oh0_12 oh0_13 oh0_14 oh0_15 oh0_16 oh0_17 oh0_18 oh0_19 oh0_20 oh0_21 oh0_23 oh0_24 oh0_25 oh0_26 oh0_27 oh0_28 oh0_29 oh0_30 oh0_31 oh0_32 oh0_33 oh0_34 oh0_35 oh0_36 oh0_37 : Value) (p1 : Int32) (v_persons : Nat → Int32) (v_interest : Nat → Int32) (v_now : Nat → Int32) (r : Int32) (nv_now : Nat → Int32) (hM : f9_pass N p1 v_persons v_interest v_now = some (r, nv_now)) (sz : Nat) : CTi l yX9_pass wsX9_pass r9_pass [.ref h0, .int p1] D cy sz [(h0, .inr (9, [oh0_0, oh0_1, oh0_2, oh0_3, oh0_4, oh0_5, oh0_6, oh0_7, .ref h0_persons, oh0_9, oh0_10, .ref h0_interest, oh0_12, oh0_13, oh0_14, oh0_15, oh0_16, oh0_17, oh0_18, oh0_19, oh0_20, oh0_21, .ref h0_now, oh0_23, oh0_24, oh0_25, oh0_26, oh0_27, oh0_28, oh0_29, oh0_30, oh0_31, oh0_32, oh0_33, oh0_34, oh0_35, oh0_36, oh0_37])), (h0_persons, .inl (cy 2, 2, .inl v_persons)), (h0_interest, .inl (cy 2, 2, .inl v_interest)), (h0_now, .inl (cy 2, 60, .inl v_now))] [(h0, .inr (9, [oh0_0, oh0_1, oh0_2, oh0_3, oh0_4, oh0_5, oh0_6, oh0_7, .ref h0_persons, oh0_9, oh0_10, .ref h0_interest, oh0_12, oh0_13, oh0_14, oh0_15, oh0_16, oh0_17, oh0_18, oh0_19, oh0_20, oh0_21, .ref h0_now, oh0_23, oh0_24, oh0_25, oh0_26, oh0_27, oh0_28, oh0_29, oh0_30, oh0_31, oh0_32, oh0_33, oh0_34, oh0_35, oh0_36, oh0_37])), (h0_persons, .inl (cy 2, 2, .inl v_persons)), (h0_interest, .inl (cy 2, 2, .inl v_interest)), (h0_now, .inl (cy 2, 60, .inl nv_now))] r := by
  unfold f9_pass at hM
  refine ct_oi (cc := cX9_pass) (maxL := 2) (ty := .int) (by decide +kernel) rfl (Nat.le_of_ble_eq_true rfl) (lv0 := [(0, .ref h0), (1, .int p1)]) rfl ?_
  intro p e s m args below meth c A Q ls hx hb hts hown hml hK hP hD hS hA hret hl
  have hown : s.vm.findClass RX9 = some m.cls := hown
  have k50 := hts (.fieldLink RX9 50 "CaveYearsModel" "now" "[I") (List.mem_of_getElem? (i := 2) (by decide +kernel))
  have iX9 := (fun w h => (List.mem_cons_of_mem _ (List.mem_append_right _ h)) : ∀ w ∈ wsX90, w ∈ wsX9_pass)
  have k210 := hts (.constant RX9 210 (9999999)) (List.mem_of_getElem? (i := 3) (by decide +kernel))
  have k103 := hts (.constant RX9 103 (-1000000004)) (List.mem_of_getElem? (i := 4) (by decide +kernel))
  have k99 := hts (.constant RX9 99 (-1000000002)) (List.mem_of_getElem? (i := 1) (by decide +kernel))
  refine lv_iload_n hx hb dX9_pass_0 rfl (lv_at hl 1 rfl) ?_
  refine lv_iconst (v := 1) hx hb dX9_pass_1 (by decide) ?_
  refine lv_sipush (v := 9999) hx hb dX9_pass_2 (by decide) ?_
  obtain ⟨r5, hc5, hM⟩ := ob1_some hM
  refine cl_si (As := [.int p1, .int (1 : Int32), .int (9999 : Int32)]) (rest := []) (wr := [(h0, .inr (9, [oh0_0, oh0_1, oh0_2, oh0_3, oh0_4, oh0_5, oh0_6, oh0_7, .ref h0_persons, oh0_9, oh0_10, .ref h0_interest, oh0_12, oh0_13, oh0_14, oh0_15, oh0_16, oh0_17, oh0_18, oh0_19, oh0_20, oh0_21, .ref h0_now, oh0_23, oh0_24, oh0_25, oh0_26, oh0_27, oh0_28, oh0_29, oh0_30, oh0_31, oh0_32, oh0_33, oh0_34, oh0_35, oh0_36, oh0_37])), (h0_persons, .inl (cy 2, 2, .inl v_persons)), (h0_interest, .inl (cy 2, 2, .inl v_interest)), (h0_now, .inl (cy 2, 60, .inl v_now))]) (ws2 := [(h0, .inr (9, [oh0_0, oh0_1, oh0_2, oh0_3, oh0_4, oh0_5, oh0_6, oh0_7, .ref h0_persons, oh0_9, oh0_10, .ref h0_interest, oh0_12, oh0_13, oh0_14, oh0_15, oh0_16, oh0_17, oh0_18, oh0_19, oh0_20, oh0_21, .ref h0_now, oh0_23, oh0_24, oh0_25, oh0_26, oh0_27, oh0_28, oh0_29, oh0_30, oh0_31, oh0_32, oh0_33, oh0_34, oh0_35, oh0_36, oh0_37])), (h0_persons, .inl (cy 2, 2, .inl v_persons)), (h0_interest, .inl (cy 2, 2, .inl v_interest)), (h0_now, .inl (cy 2, 60, .inl v_now))]) (isC := []) (isR := [0, 1, 2, 3]) (pm := [0, 1, 2, 3]) hx hb hml hown hts (c9_in l D cy N p1 (1 : Int32) (9999 : Int32) r5 hc5) (va_cwS 3 hts gX9_pass_X9_in rfl rfl rfl (by decide +kernel) ⟨Nat.le_of_ble_eq_true rfl, Nat.le_of_ble_eq_true rfl⟩) hK hP hD hS hA rfl rfl rfl (by decide) rfl rfl rfl hl.1 (Nat.le_of_ble_eq_true rfl) dX9_pass_5 ⟨Nat.zero_le _, Nat.zero_le _⟩ rfl rfl (fun H locs hP hD hS => ?_)
  refine lv_if_ne (tgt := 14) hx hb dX9_pass_8 (by decide) (fun c8 => ?_) (fun c8 => ?_)
  · have hM := g_neg c8 hM
    refine lv_aload_n hx hb dX9_pass_14 rfl (lv_at hl 0 rfl) ?_
    refine va_get (D := D) (ci := 9) (v := .ref h0_now) (C := RX9) (T := TX9) (N := 38) hx hb hts iX9 hown hK hP 0 rfl rfl 22 (by decide) k50 (fun _ h9 => h9) rfl dX9_pass_15 ?_
    refine lv_iconst (v := 0) hx hb dX9_pass_18 (by decide) ?_
    obtain ⟨h19, hM⟩ := gi_some hM
    refine va_iald hx hb hK hP 3 2 rfl rfl h19 dX9_pass_19 ?_
    refine lv_iload_n hx hb dX9_pass_20 rfl (lv_at hl 1 rfl) ?_
    refine lv_iadd hx hb dX9_pass_21 ?_
    refine lv_ldc (v := 9999999) hx hb hown k210 dX9_pass_22 ?_
    refine lv_icmp_le (tgt := 30) hx hb dX9_pass_24 (by decide) (fun c24 => ?_) (fun c24 => ?_)
    · have hM := g_pos c24 hM
      refine lv_aload_n hx hb dX9_pass_30 rfl (lv_at hl 0 rfl) ?_
      refine lv_iload_n hx hb dX9_pass_31 rfl (lv_at hl 1 rfl) ?_
      obtain ⟨v_now_32, hc32, hM⟩ := ob1_some hM
      refine cl_vv (As := [.int p1]) (rest := []) (ci := 9) (q0 := 0) (wr := []) (ws2 := [(h0, .inr (9, [oh0_0, oh0_1, oh0_2, oh0_3, oh0_4, oh0_5, oh0_6, oh0_7, .ref h0_persons, oh0_9, oh0_10, .ref h0_interest, oh0_12, oh0_13, oh0_14, oh0_15, oh0_16, oh0_17, oh0_18, oh0_19, oh0_20, oh0_21, .ref h0_now, oh0_23, oh0_24, oh0_25, oh0_26, oh0_27, oh0_28, oh0_29, oh0_30, oh0_31, oh0_32, oh0_33, oh0_34, oh0_35, oh0_36, oh0_37])), (h0_persons, .inl (cy 2, 2, .inl v_persons)), (h0_interest, .inl (cy 2, 2, .inl v_interest)), (h0_now, .inl (cy 2, 60, .inl v_now_32))]) (isC := [0, 1, 2, 3]) (isR := []) (pm := [0, 1, 2, 3]) hx hb hml hown hts (c9_passBy l D cy N h0 h0_persons h0_interest h0_now oh0_0 oh0_1 oh0_2 oh0_3 oh0_4 oh0_5 oh0_6 oh0_7 oh0_9 oh0_10 oh0_12 oh0_13 oh0_14 oh0_15 oh0_16 oh0_17 oh0_18 oh0_19 oh0_20 oh0_21 oh0_23 oh0_24 oh0_25 oh0_26 oh0_27 oh0_28 oh0_29 oh0_30 oh0_31 oh0_32 oh0_33 oh0_34 oh0_35 oh0_36 oh0_37 p1 v_persons v_interest v_now v_now_32 hc32) (cwV 1 hts gX9_pass_X9_passBy rfl rfl rfl (by decide +kernel) ⟨Nat.le_of_ble_eq_true rfl, Nat.le_of_ble_eq_true rfl⟩) hK hP hD hS hA rfl rfl rfl rfl rfl (by decide) rfl rfl rfl hl.1 (Nat.le_of_ble_eq_true rfl) dX9_pass_32 ⟨Nat.zero_le _, Nat.zero_le _⟩ rfl rfl (fun H locs hP hD hS => ?_)
      refine lv_aload_n hx hb dX9_pass_35 rfl (lv_at hl 0 rfl) ?_
      refine va_get (D := D) (ci := 9) (v := .ref h0_now) (C := RX9) (T := TX9) (N := 38) hx hb hts iX9 hown hK hP 0 rfl rfl 22 (by decide) k50 (fun _ h9 => h9) rfl dX9_pass_36 ?_
      refine lv_iconst (v := 0) hx hb dX9_pass_39 (by decide) ?_
      obtain ⟨h40, hM⟩ := gi_some hM
      refine va_iald hx hb hK hP 3 2 rfl rfl h40 dX9_pass_40 ?_
      obtain ⟨rfl, rfl⟩ := si2 hM
      exact hret _ _ _ _ _ dX9_pass_41 rfl rfl hP hD hS
    · have hM := g_neg c24 hM
      refine lv_ldc (v := -1000000004) hx hb hown k103 dX9_pass_27 ?_
      obtain ⟨rfl, rfl⟩ := si2 hM
      exact hret _ _ _ _ _ dX9_pass_29 rfl rfl hP hD hS
  · have hM := g_pos c8 hM
    refine lv_ldc (v := -1000000002) hx hb hown k99 dX9_pass_11 ?_
    obtain ⟨rfl, rfl⟩ := si2 hM
    exact hret _ _ _ _ _ dX9_pass_13 rfl rfl hP hD hS

-- ===== X9_draw draw (I)I =====
abbrev r9_draw : Room := { frames := 0, cells := 0, slots := 0, locals := 0 }
def f9_draw (N : Nat) (p1 : Int32) (v_seed : Int32) : Option (Int32 × Int32) :=
  gz p1 (some ((((((((v_seed.toInt64) * (1103515245 : Int64)) + (12345 : Int64)) - (((v_seed.toInt64) * (1103515245 : Int64)) + (12345 : Int64)) / (2147483648 : Int64) * (2147483648 : Int64)).toInt32) / (65536 : Int32)) - ((((((v_seed.toInt64) * (1103515245 : Int64)) + (12345 : Int64)) - (((v_seed.toInt64) * (1103515245 : Int64)) + (12345 : Int64)) / (2147483648 : Int64) * (2147483648 : Int64)).toInt32) / (65536 : Int32)) / p1 * p1), ((((v_seed.toInt64) * (1103515245 : Int64)) + (12345 : Int64)) - (((v_seed.toInt64) * (1103515245 : Int64)) + (12345 : Int64)) / (2147483648 : Int64) * (2147483648 : Int64)).toInt32))
set_option maxHeartbeats 4000000 in
set_option maxRecDepth 100000 in
theorem c9_draw (l : Launch) (D : va_G) (cy : Nat → ClassId) (N : Nat) (h0 : Nat) (oh0_1 oh0_2 oh0_3 oh0_4 oh0_5 oh0_6 oh0_7 oh0_8 oh0_9 oh0_10 oh0_11 oh0_12 oh0_13 oh0_14 oh0_15 oh0_16 oh0_17 oh0_18 oh0_19 oh0_20 oh0_21 oh0_22 oh0_23 oh0_24 oh0_25 oh0_26 oh0_27 oh0_28 oh0_29 oh0_30 oh0_31 oh0_32 oh0_33 oh0_34 oh0_35 oh0_36 oh0_37 : Value) (p1 : Int32) (v_seed : Int32) (r : Int32) (nv_seed : Int32) (hM : f9_draw N p1 v_seed = some (r, nv_seed)) (sz : Nat) : CTi l yX9_draw wsX9_draw r9_draw [.ref h0, .int p1] D cy sz [(h0, .inr (9, [.int v_seed, oh0_1, oh0_2, oh0_3, oh0_4, oh0_5, oh0_6, oh0_7, oh0_8, oh0_9, oh0_10, oh0_11, oh0_12, oh0_13, oh0_14, oh0_15, oh0_16, oh0_17, oh0_18, oh0_19, oh0_20, oh0_21, oh0_22, oh0_23, oh0_24, oh0_25, oh0_26, oh0_27, oh0_28, oh0_29, oh0_30, oh0_31, oh0_32, oh0_33, oh0_34, oh0_35, oh0_36, oh0_37]))] [(h0, .inr (9, [.int nv_seed, oh0_1, oh0_2, oh0_3, oh0_4, oh0_5, oh0_6, oh0_7, oh0_8, oh0_9, oh0_10, oh0_11, oh0_12, oh0_13, oh0_14, oh0_15, oh0_16, oh0_17, oh0_18, oh0_19, oh0_20, oh0_21, oh0_22, oh0_23, oh0_24, oh0_25, oh0_26, oh0_27, oh0_28, oh0_29, oh0_30, oh0_31, oh0_32, oh0_33, oh0_34, oh0_35, oh0_36, oh0_37]))] r := by
  unfold f9_draw at hM
  refine ct_oi (cc := cX9_draw) (maxL := 2) (ty := .int) (by decide +kernel) rfl (Nat.le_of_ble_eq_true rfl) (lv0 := [(0, .ref h0), (1, .int p1)]) rfl ?_
  intro p e s m args below meth c A Q ls hx hb hts hown hml hK hP hD hS hA hret hl
  have hown : s.vm.findClass RX9 = some m.cls := hown
  have k214 := hts (.fieldLink RX9 214 "CaveYearsModel" "seed" "I") (List.mem_of_getElem? (i := 1) (by decide +kernel))
  have iX9 := (fun w h => (List.mem_cons_of_mem _ (List.mem_append_right _ h)) : ∀ w ∈ wsX90, w ∈ wsX9_draw)
  have k217 := hts (.constantLong RX9 217 (1103515245)) (List.mem_of_getElem? (i := 2) (by decide +kernel))
  have k219 := hts (.constantLong RX9 219 (12345)) (List.mem_of_getElem? (i := 3) (by decide +kernel))
  have k221 := hts (.constantLong RX9 221 (2147483648)) (List.mem_of_getElem? (i := 4) (by decide +kernel))
  have k223 := hts (.constant RX9 223 (65536)) (List.mem_of_getElem? (i := 5) (by decide +kernel))
  refine lv_aload_n hx hb dX9_draw_0 rfl (lv_at hl 0 rfl) ?_
  refine lv_aload_n hx hb dX9_draw_1 rfl (lv_at hl 0 rfl) ?_
  refine va_get (D := D) (ci := 9) (v := .int v_seed) (C := RX9) (T := TX9) (N := 38) hx hb hts iX9 hown hK hP 0 rfl rfl 0 (by decide) k214 (fun _ h9 => h9) rfl dX9_draw_2 ?_
  refine lv_i2l (v := v_seed.toInt64) hx hb dX9_draw_5 rfl ?_
  refine lv_ldc2 (v := 1103515245) hx hb hown k217 dX9_draw_6 ?_
  refine lv_lmul hx hb dX9_draw_9 ?_
  refine lv_ldc2 (v := 12345) hx hb hown k219 dX9_draw_10 ?_
  refine lv_ladd hx hb dX9_draw_13 ?_
  refine lv_ldc2 (v := 2147483648) hx hb hown k221 dX9_draw_14 ?_
  refine lv_lrem hx hb dX9_draw_17 (by decide) ?_
  refine lv_l2i (v := ((((v_seed.toInt64) * (1103515245 : Int64)) + (12345 : Int64)) - (((v_seed.toInt64) * (1103515245 : Int64)) + (12345 : Int64)) / (2147483648 : Int64) * (2147483648 : Int64)).toInt32) hx hb dX9_draw_18 rfl ?_
  refine va_put (D := D) (ci := 9) (v := .int (((((v_seed.toInt64) * (1103515245 : Int64)) + (12345 : Int64)) - (((v_seed.toInt64) * (1103515245 : Int64)) + (12345 : Int64)) / (2147483648 : Int64) * (2147483648 : Int64)).toInt32)) (ty := .int) (C := RX9) (T := TX9) (N := 38) hx hb hts iX9 tyX9 tyX9_ok nmX9 hown hK hP hD hS 0 rfl rfl 0 (by decide) k214 (fun _ h9 => h9) rfl (by decide +kernel) rfl rfl (Nat.le_of_ble_eq_true rfl) dX9_draw_19 (fun H locs hP hD hS => ?_)
  have hP : va_P D vwCl [(h0, .inr (9, [.int (((((v_seed.toInt64) * (1103515245 : Int64)) + (12345 : Int64)) - (((v_seed.toInt64) * (1103515245 : Int64)) + (12345 : Int64)) / (2147483648 : Int64) * (2147483648 : Int64)).toInt32), oh0_1, oh0_2, oh0_3, oh0_4, oh0_5, oh0_6, oh0_7, oh0_8, oh0_9, oh0_10, oh0_11, oh0_12, oh0_13, oh0_14, oh0_15, oh0_16, oh0_17, oh0_18, oh0_19, oh0_20, oh0_21, oh0_22, oh0_23, oh0_24, oh0_25, oh0_26, oh0_27, oh0_28, oh0_29, oh0_30, oh0_31, oh0_32, oh0_33, oh0_34, oh0_35, oh0_36, oh0_37]))] H := hP
  have hD : va_D A [(h0, .inr (9, [.int (((((v_seed.toInt64) * (1103515245 : Int64)) + (12345 : Int64)) - (((v_seed.toInt64) * (1103515245 : Int64)) + (12345 : Int64)) / (2147483648 : Int64) * (2147483648 : Int64)).toInt32), oh0_1, oh0_2, oh0_3, oh0_4, oh0_5, oh0_6, oh0_7, oh0_8, oh0_9, oh0_10, oh0_11, oh0_12, oh0_13, oh0_14, oh0_15, oh0_16, oh0_17, oh0_18, oh0_19, oh0_20, oh0_21, oh0_22, oh0_23, oh0_24, oh0_25, oh0_26, oh0_27, oh0_28, oh0_29, oh0_30, oh0_31, oh0_32, oh0_33, oh0_34, oh0_35, oh0_36, oh0_37]))] := hD
  refine lv_aload_n hx hb dX9_draw_22 rfl (lv_at hl 0 rfl) ?_
  refine va_get (D := D) (ci := 9) (v := .int (((((v_seed.toInt64) * (1103515245 : Int64)) + (12345 : Int64)) - (((v_seed.toInt64) * (1103515245 : Int64)) + (12345 : Int64)) / (2147483648 : Int64) * (2147483648 : Int64)).toInt32)) (C := RX9) (T := TX9) (N := 38) hx hb hts iX9 hown hK hP 0 rfl rfl 0 (by decide) k214 (fun _ h9 => h9) rfl dX9_draw_23 ?_
  refine lv_ldc (v := 65536) hx hb hown k223 dX9_draw_26 ?_
  refine lv_idiv hx hb dX9_draw_28 (by decide) ?_
  refine lv_iload_n hx hb dX9_draw_29 rfl (lv_at hl 1 rfl) ?_
  obtain ⟨hz30, hM⟩ := gz_some hM
  refine lv_irem hx hb dX9_draw_30 hz30 ?_
  obtain ⟨rfl, rfl⟩ := si2 hM
  exact hret _ _ _ _ _ dX9_draw_31 rfl rfl hP hD hS
