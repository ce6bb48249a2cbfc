-- ===== X0_init constructor =====
abbrev r0_init : Room := { frames := 1, cells := 6, slots := 36, locals := 12 }
set_option maxHeartbeats 4000000 in
set_option maxRecDepth 100000 in
theorem c0_init (l : Launch) (D : va_G) (cy : Nat → ClassId) (h0 : Nat) (sz : Nat) : CTn EO l yX0_init wsX0_init r0_init [.ref h0] D cy sz [(h0, .inr (0, [.int (0 : Int32), .int (0 : Int32), .int (0 : Int32), .int (0 : Int32), .int (0 : Int32), .int (0 : Int32), .int (0 : Int32), .null, .null, .null, .null, .null, .null]))] (fun w => ∃ (q7 : Nat) (q15 : Nat) (q23 : Nat) (q31 : Nat) (q38 : Nat) (q45 : Nat), w = [(h0, .inr (0, [.int (0 : Int32), .int (0 : Int32), .int (0 : Int32), .int (0 : Int32), .int (0 : Int32), .int (0 : Int32), .int (0 : Int32), .ref q7, .ref q15, .ref q23, .ref q31, .ref q38, .ref q45])), (q7, .inl (cy 2, 7, .inl (fun _ => 0))), (q15, .inl (cy 2, 7, .inl (fun _ => 0))), (q23, .inl (cy 2, 6, .inl (fun _ => 0))), (q31, .inl (cy 2, 6, .inl (fun _ => 0))), (q38, .inl (cy 2, 5, .inl (fun _ => 0))), (q45, .inl (cy 2, 5, .inl (fun _ => 0)))]) 6 36 := by
  refine ct_on (cc := cX0_init) (maxL := 1) (by decide +kernel) rfl (Nat.le_of_ble_eq_true rfl) (lv0 := [(0, .ref h0)]) rfl ?_
  intro p e s m args below meth c A Q ls hx hb hts hown hml hin hE hK hP hD hS hA hret hl
  have hown : s.vm.findClass RX0 = some m.cls := hown
  have kl3 := hts (.methodLink RX0 3 objectInit) (List.mem_of_getElem? (i := 1) rfl)
  have kio := hts (.instanceMethod objectInit) (List.mem_of_getElem? (i := 2) rfl)
  have kco := hts (.code objectInit ⟨#[0xb1]⟩ 1 none) (List.mem_of_getElem? (i := 3) rfl)
  have ka_I := hts (.arrayClass .int) (List.mem_of_getElem? (i := 4) rfl)
  have iX0 := (fun w h => (List.mem_cons_of_mem _ (List.mem_append_right _ h)) : ∀ w ∈ wsX00, w ∈ wsX0_init)
  have k9 := hts (.fieldLink RX0 9 "CaveYears$Cave" "rate" "[I") (List.mem_of_getElem? (i := 5) rfl)
  have k15 := hts (.fieldLink RX0 15 "CaveYears$Cave" "near" "[I") (List.mem_of_getElem? (i := 6) rfl)
  have k18 := hts (.fieldLink RX0 18 "CaveYears$Cave" "firstAge" "[I") (List.mem_of_getElem? (i := 7) rfl)
  have k21 := hts (.fieldLink RX0 21 "CaveYears$Cave" "firstRiches" "[I") (List.mem_of_getElem? (i := 8) rfl)
  have k24 := hts (.fieldLink RX0 24 "CaveYears$Cave" "winterStart" "[I") (List.mem_of_getElem? (i := 9) rfl)
  have k27 := hts (.fieldLink RX0 27 "CaveYears$Cave" "winterEnd" "[I") (List.mem_of_getElem? (i := 10) rfl)
  refine lv_aload_n hx hb dX0_init_0 rfl (lv_at hl 0 rfl) ?_
  refine W.objInit hx hb hown kl3 kio kco rfl (by rw [hml]; exact hl.1) rfl dX0_init_1 (Nat.le_of_ble_eq_true rfl) (Nat.le_of_ble_eq_true rfl) ?_
  refine W.eq (g2 := F0 m 4 ls []) rfl ?_
  refine lv_aload_n hx hb dX0_init_4 rfl (lv_at hl 0 rfl) ?_
  refine lv_bipush (v := 7) hx hb dX0_init_5 (by decide) ?_
  refine wv_newa (atype := .int) (ty := .int) (k := 2) (N' := 7) (a0 := (7, .inl (fun _ => 0))) hx hb ka_I rfl rfl (fun _ h => by cases h) hK hP hD hS hA (fun cA => wv_zI cA 7) (by decide) (by decide) (Nat.le_of_ble_eq_true rfl) (Nat.le_of_ble_eq_true rfl) (Nat.le_of_ble_eq_true rfl) dX0_init_7 (fun q7 H hP hD hS => ?_)
  have hP : va_P D vwCl [(h0, .inr (0, [.int (0 : Int32), .int (0 : Int32), .int (0 : Int32), .int (0 : Int32), .int (0 : Int32), .int (0 : Int32), .int (0 : Int32), .null, .null, .null, .null, .null, .null])), (q7, .inl (cy 2, 7, .inl (fun _ => 0)))] H := hP
  have hD : va_D A [(h0, .inr (0, [.int (0 : Int32), .int (0 : Int32), .int (0 : Int32), .int (0 : Int32), .int (0 : Int32), .int (0 : Int32), .int (0 : Int32), .null, .null, .null, .null, .null, .null])), (q7, .inl (cy 2, 7, .inl (fun _ => 0)))] := hD
  refine W.widen (k := 1) (n := 7) (Nat.le_of_ble_eq_true rfl) (Nat.le_of_ble_eq_true rfl) ?_
  refine va_putF (D := D) (ci := 0) (v := .ref q7) (ty := .array .int) (C := RX0) (T := TX0) (N := 13) hx hb hts iX0 tyX0 tyX0_ok nmX0 hown hK hP hD hS 0 rfl rfl 7 (by decide) k9 (fun _ h9 => h9) rfl hin rfl (by decide +kernel) rfl rfl (Nat.le_of_ble_eq_true rfl) dX0_init_9 (fun H locs hP hD hS => ?_)
  have hP : va_P D vwCl [(h0, .inr (0, [.int (0 : Int32), .int (0 : Int32), .int (0 : Int32), .int (0 : Int32), .int (0 : Int32), .int (0 : Int32), .int (0 : Int32), .ref q7, .null, .null, .null, .null, .null])), (q7, .inl (cy 2, 7, .inl (fun _ => 0)))] H := hP
  have hD : va_D A [(h0, .inr (0, [.int (0 : Int32), .int (0 : Int32), .int (0 : Int32), .int (0 : Int32), .int (0 : Int32), .int (0 : Int32), .int (0 : Int32), .ref q7, .null, .null, .null, .null, .null])), (q7, .inl (cy 2, 7, .inl (fun _ => 0)))] := hD
  refine lv_aload_n hx hb dX0_init_12 rfl (lv_at hl 0 rfl) ?_
  refine lv_bipush (v := 7) hx hb dX0_init_13 (by decide) ?_
  refine wv_newa (atype := .int) (ty := .int) (k := 2) (N' := 7) (a0 := (7, .inl (fun _ => 0))) hx hb ka_I rfl rfl (fun _ h => by cases h) hK hP hD hS hA (fun cA => wv_zI cA 7) (by decide) (by decide) (Nat.le_of_ble_eq_true rfl) (Nat.le_of_ble_eq_true rfl) (Nat.le_of_ble_eq_true rfl) dX0_init_15 (fun q15 H hP hD hS => ?_)
  have hP : va_P D vwCl [(h0, .inr (0, [.int (0 : Int32), .int (0 : Int32), .int (0 : Int32), .int (0 : Int32), .int (0 : Int32), .int (0 : Int32), .int (0 : Int32), .ref q7, .null, .null, .null, .null, .null])), (q7, .inl (cy 2, 7, .inl (fun _ => 0))), (q15, .inl (cy 2, 7, .inl (fun _ => 0)))] H := hP
  have hD : va_D A [(h0, .inr (0, [.int (0 : Int32), .int (0 : Int32), .int (0 : Int32), .int (0 : Int32), .int (0 : Int32), .int (0 : Int32), .int (0 : Int32), .ref q7, .null, .null, .null, .null, .null])), (q7, .inl (cy 2, 7, .inl (fun _ => 0))), (q15, .inl (cy 2, 7, .inl (fun _ => 0)))] := hD
  refine W.widen (k := 2) (n := 14) (Nat.le_of_ble_eq_true rfl) (Nat.le_of_ble_eq_true rfl) ?_
  refine va_putF (D := D) (ci := 0) (v := .ref q15) (ty := .array .int) (C := RX0) (T := TX0) (N := 13) hx hb hts iX0 tyX0 tyX0_ok nmX0 hown hK hP hD hS 0 rfl rfl 8 (by decide) k15 (fun _ h9 => h9) rfl hin rfl (by decide +kernel) rfl rfl (Nat.le_of_ble_eq_true rfl) dX0_init_17 (fun H locs hP hD hS => ?_)
  have hP : va_P D vwCl [(h0, .inr (0, [.int (0 : Int32), .int (0 : Int32), .int (0 : Int32), .int (0 : Int32), .int (0 : Int32), .int (0 : Int32), .int (0 : Int32), .ref q7, .ref q15, .null, .null, .null, .null])), (q7, .inl (cy 2, 7, .inl (fun _ => 0))), (q15, .inl (cy 2, 7, .inl (fun _ => 0)))] H := hP
  have hD : va_D A [(h0, .inr (0, [.int (0 : Int32), .int (0 : Int32), .int (0 : Int32), .int (0 : Int32), .int (0 : Int32), .int (0 : Int32), .int (0 : Int32), .ref q7, .ref q15, .null, .null, .null, .null])), (q7, .inl (cy 2, 7, .inl (fun _ => 0))), (q15, .inl (cy 2, 7, .inl (fun _ => 0)))] := hD
  refine lv_aload_n hx hb dX0_init_20 rfl (lv_at hl 0 rfl) ?_
  refine lv_bipush (v := 6) hx hb dX0_init_21 (by decide) ?_
  refine wv_newa (atype := .int) (ty := .int) (k := 2) (N' := 6) (a0 := (6, .inl (fun _ => 0))) hx hb ka_I rfl rfl (fun _ h => by cases h) hK hP hD hS hA (fun cA => wv_zI cA 6) (by decide) (by decide) (Nat.le_of_ble_eq_true rfl) (Nat.le_of_ble_eq_true rfl) (Nat.le_of_ble_eq_true rfl) dX0_init_23 (fun q23 H hP hD hS => ?_)
  have hP : va_P D vwCl [(h0, .inr (0, [.int (0 : Int32), .int (0 : Int32), .int (0 : Int32), .int (0 : Int32), .int (0 : Int32), .int (0 : Int32), .int (0 : Int32), .ref q7, .ref q15, .null, .null, .null, .null])), (q7, .inl (cy 2, 7, .inl (fun _ => 0))), (q15, .inl (cy 2, 7, .inl (fun _ => 0))), (q23, .inl (cy 2, 6, .inl (fun _ => 0)))] H := hP
  have hD : va_D A [(h0, .inr (0, [.int (0 : Int32), .int (0 : Int32), .int (0 : Int32), .int (0 : Int32), .int (0 : Int32), .int (0 : Int32), .int (0 : Int32), .ref q7, .ref q15, .null, .null, .null, .null])), (q7, .inl (cy 2, 7, .inl (fun _ => 0))), (q15, .inl (cy 2, 7, .inl (fun _ => 0))), (q23, .inl (cy 2, 6, .inl (fun _ => 0)))] := hD
  refine W.widen (k := 3) (n := 20) (Nat.le_of_ble_eq_true rfl) (Nat.le_of_ble_eq_true rfl) ?_
  refine va_putF (D := D) (ci := 0) (v := .ref q23) (ty := .array .int) (C := RX0) (T := TX0) (N := 13) hx hb hts iX0 tyX0 tyX0_ok nmX0 hown hK hP hD hS 0 rfl rfl 9 (by decide) k18 (fun _ h9 => h9) rfl hin rfl (by decide +kernel) rfl rfl (Nat.le_of_ble_eq_true rfl) dX0_init_25 (fun H locs hP hD hS => ?_)
  have hP : va_P D vwCl [(h0, .inr (0, [.int (0 : Int32), .int (0 : Int32), .int (0 : Int32), .int (0 : Int32), .int (0 : Int32), .int (0 : Int32), .int (0 : Int32), .ref q7, .ref q15, .ref q23, .null, .null, .null])), (q7, .inl (cy 2, 7, .inl (fun _ => 0))), (q15, .inl (cy 2, 7, .inl (fun _ => 0))), (q23, .inl (cy 2, 6, .inl (fun _ => 0)))] H := hP
  have hD : va_D A [(h0, .inr (0, [.int (0 : Int32), .int (0 : Int32), .int (0 : Int32), .int (0 : Int32), .int (0 : Int32), .int (0 : Int32), .int (0 : Int32), .ref q7, .ref q15, .ref q23, .null, .null, .null])), (q7, .inl (cy 2, 7, .inl (fun _ => 0))), (q15, .inl (cy 2, 7, .inl (fun _ => 0))), (q23, .inl (cy 2, 6, .inl (fun _ => 0)))] := hD
  refine lv_aload_n hx hb dX0_init_28 rfl (lv_at hl 0 rfl) ?_
  refine lv_bipush (v := 6) hx hb dX0_init_29 (by decide) ?_
  refine wv_newa (atype := .int) (ty := .int) (k := 2) (N' := 6) (a0 := (6, .inl (fun _ => 0))) hx hb ka_I rfl rfl (fun _ h => by cases h) hK hP hD hS hA (fun cA => wv_zI cA 6) (by decide) (by decide) (Nat.le_of_ble_eq_true rfl) (Nat.le_of_ble_eq_true rfl) (Nat.le_of_ble_eq_true rfl) dX0_init_31 (fun q31 H hP hD hS => ?_)
  have hP : va_P D vwCl [(h0, .inr (0, [.int (0 : Int32), .int (0 : Int32), .int (0 : Int32), .int (0 : Int32), .int (0 : Int32), .int (0 : Int32), .int (0 : Int32), .ref q7, .ref q15, .ref q23, .null, .null, .null])), (q7, .inl (cy 2, 7, .inl (fun _ => 0))), (q15, .inl (cy 2, 7, .inl (fun _ => 0))), (q23, .inl (cy 2, 6, .inl (fun _ => 0))), (q31, .inl (cy 2, 6, .inl (fun _ => 0)))] H := hP
  have hD : va_D A [(h0, .inr (0, [.int (0 : Int32), .int (0 : Int32), .int (0 : Int32), .int (0 : Int32), .int (0 : Int32), .int (0 : Int32), .int (0 : Int32), .ref q7, .ref q15, .ref q23, .null, .null, .null])), (q7, .inl (cy 2, 7, .inl (fun _ => 0))), (q15, .inl (cy 2, 7, .inl (fun _ => 0))), (q23, .inl (cy 2, 6, .inl (fun _ => 0))), (q31, .inl (cy 2, 6, .inl (fun _ => 0)))] := hD
  refine W.widen (k := 4) (n := 26) (Nat.le_of_ble_eq_true rfl) (Nat.le_of_ble_eq_true rfl) ?_
  refine va_putF (D := D) (ci := 0) (v := .ref q31) (ty := .array .int) (C := RX0) (T := TX0) (N := 13) hx hb hts iX0 tyX0 tyX0_ok nmX0 hown hK hP hD hS 0 rfl rfl 10 (by decide) k21 (fun _ h9 => h9) rfl hin rfl (by decide +kernel) rfl rfl (Nat.le_of_ble_eq_true rfl) dX0_init_33 (fun H locs hP hD hS => ?_)
  have hP : va_P D vwCl [(h0, .inr (0, [.int (0 : Int32), .int (0 : Int32), .int (0 : Int32), .int (0 : Int32), .int (0 : Int32), .int (0 : Int32), .int (0 : Int32), .ref q7, .ref q15, .ref q23, .ref q31, .null, .null])), (q7, .inl (cy 2, 7, .inl (fun _ => 0))), (q15, .inl (cy 2, 7, .inl (fun _ => 0))), (q23, .inl (cy 2, 6, .inl (fun _ => 0))), (q31, .inl (cy 2, 6, .inl (fun _ => 0)))] H := hP
  have hD : va_D A [(h0, .inr (0, [.int (0 : Int32), .int (0 : Int32), .int (0 : Int32), .int (0 : Int32), .int (0 : Int32), .int (0 : Int32), .int (0 : Int32), .ref q7, .ref q15, .ref q23, .ref q31, .null, .null])), (q7, .inl (cy 2, 7, .inl (fun _ => 0))), (q15, .inl (cy 2, 7, .inl (fun _ => 0))), (q23, .inl (cy 2, 6, .inl (fun _ => 0))), (q31, .inl (cy 2, 6, .inl (fun _ => 0)))] := hD
  refine lv_aload_n hx hb dX0_init_36 rfl (lv_at hl 0 rfl) ?_
  refine lv_iconst (v := 5) hx hb dX0_init_37 (by decide) ?_
  refine wv_newa (atype := .int) (ty := .int) (k := 2) (N' := 5) (a0 := (5, .inl (fun _ => 0))) hx hb ka_I rfl rfl (fun _ h => by cases h) hK hP hD hS hA (fun cA => wv_zI cA 5) (by decide) (by decide) (Nat.le_of_ble_eq_true rfl) (Nat.le_of_ble_eq_true rfl) (Nat.le_of_ble_eq_true rfl) dX0_init_38 (fun q38 H hP hD hS => ?_)
  have hP : va_P D vwCl [(h0, .inr (0, [.int (0 : Int32), .int (0 : Int32), .int (0 : Int32), .int (0 : Int32), .int (0 : Int32), .int (0 : Int32), .int (0 : Int32), .ref q7, .ref q15, .ref q23, .ref q31, .null, .null])), (q7, .inl (cy 2, 7, .inl (fun _ => 0))), (q15, .inl (cy 2, 7, .inl (fun _ => 0))), (q23, .inl (cy 2, 6, .inl (fun _ => 0))), (q31, .inl (cy 2, 6, .inl (fun _ => 0))), (q38, .inl (cy 2, 5, .inl (fun _ => 0)))] H := hP
  have hD : va_D A [(h0, .inr (0, [.int (0 : Int32), .int (0 : Int32), .int (0 : Int32), .int (0 : Int32), .int (0 : Int32), .int (0 : Int32), .int (0 : Int32), .ref q7, .ref q15, .ref q23, .ref q31, .null, .null])), (q7, .inl (cy 2, 7, .inl (fun _ => 0))), (q15, .inl (cy 2, 7, .inl (fun _ => 0))), (q23, .inl (cy 2, 6, .inl (fun _ => 0))), (q31, .inl (cy 2, 6, .inl (fun _ => 0))), (q38, .inl (cy 2, 5, .inl (fun _ => 0)))] := hD
  refine W.widen (k := 5) (n := 31) (Nat.le_of_ble_eq_true rfl) (Nat.le_of_ble_eq_true rfl) ?_
  refine va_putF (D := D) (ci := 0) (v := .ref q38) (ty := .array .int) (C := RX0) (T := TX0) (N := 13) hx hb hts iX0 tyX0 tyX0_ok nmX0 hown hK hP hD hS 0 rfl rfl 11 (by decide) k24 (fun _ h9 => h9) rfl hin rfl (by decide +kernel) rfl rfl (Nat.le_of_ble_eq_true rfl) dX0_init_40 (fun H locs hP hD hS => ?_)
  have hP : va_P D vwCl [(h0, .inr (0, [.int (0 : Int32), .int (0 : Int32), .int (0 : Int32), .int (0 : Int32), .int (0 : Int32), .int (0 : Int32), .int (0 : Int32), .ref q7, .ref q15, .ref q23, .ref q31, .ref q38, .null])), (q7, .inl (cy 2, 7, .inl (fun _ => 0))), (q15, .inl (cy 2, 7, .inl (fun _ => 0))), (q23, .inl (cy 2, 6, .inl (fun _ => 0))), (q31, .inl (cy 2, 6, .inl (fun _ => 0))), (q38, .inl (cy 2, 5, .inl (fun _ => 0)))] H := hP
  have hD : va_D A [(h0, .inr (0, [.int (0 : Int32), .int (0 : Int32), .int (0 : Int32), .int (0 : Int32), .int (0 : Int32), .int (0 : Int32), .int (0 : Int32), .ref q7, .ref q15, .ref q23, .ref q31, .ref q38, .null])), (q7, .inl (cy 2, 7, .inl (fun _ => 0))), (q15, .inl (cy 2, 7, .inl (fun _ => 0))), (q23, .inl (cy 2, 6, .inl (fun _ => 0))), (q31, .inl (cy 2, 6, .inl (fun _ => 0))), (q38, .inl (cy 2, 5, .inl (fun _ => 0)))] := hD
  refine lv_aload_n hx hb dX0_init_43 rfl (lv_at hl 0 rfl) ?_
  refine lv_iconst (v := 5) hx hb dX0_init_44 (by decide) ?_
  refine wv_newa (atype := .int) (ty := .int) (k := 2) (N' := 5) (a0 := (5, .inl (fun _ => 0))) hx hb ka_I rfl rfl (fun _ h => by cases h) hK hP hD hS hA (fun cA => wv_zI cA 5) (by decide) (by decide) (Nat.le_of_ble_eq_true rfl) (Nat.le_of_ble_eq_true rfl) (Nat.le_of_ble_eq_true rfl) dX0_init_45 (fun q45 H hP hD hS => ?_)
  have hP : va_P D vwCl [(h0, .inr (0, [.int (0 : Int32), .int (0 : Int32), .int (0 : Int32), .int (0 : Int32), .int (0 : Int32), .int (0 : Int32), .int (0 : Int32), .ref q7, .ref q15, .ref q23, .ref q31, .ref q38, .null])), (q7, .inl (cy 2, 7, .inl (fun _ => 0))), (q15, .inl (cy 2, 7, .inl (fun _ => 0))), (q23, .inl (cy 2, 6, .inl (fun _ => 0))), (q31, .inl (cy 2, 6, .inl (fun _ => 0))), (q38, .inl (cy 2, 5, .inl (fun _ => 0))), (q45, .inl (cy 2, 5, .inl (fun _ => 0)))] H := hP
  have hD : va_D A [(h0, .inr (0, [.int (0 : Int32), .int (0 : Int32), .int (0 : Int32), .int (0 : Int32), .int (0 : Int32), .int (0 : Int32), .int (0 : Int32), .ref q7, .ref q15, .ref q23, .ref q31, .ref q38, .null])), (q7, .inl (cy 2, 7, .inl (fun _ => 0))), (q15, .inl (cy 2, 7, .inl (fun _ => 0))), (q23, .inl (cy 2, 6, .inl (fun _ => 0))), (q31, .inl (cy 2, 6, .inl (fun _ => 0))), (q38, .inl (cy 2, 5, .inl (fun _ => 0))), (q45, .inl (cy 2, 5, .inl (fun _ => 0)))] := hD
  refine W.widen (k := 6) (n := 36) (Nat.le_of_ble_eq_true rfl) (Nat.le_of_ble_eq_true rfl) ?_
  refine va_putF (D := D) (ci := 0) (v := .ref q45) (ty := .array .int) (C := RX0) (T := TX0) (N := 13) hx hb hts iX0 tyX0 tyX0_ok nmX0 hown hK hP hD hS 0 rfl rfl 12 (by decide) k27 (fun _ h9 => h9) rfl hin rfl (by decide +kernel) rfl rfl (Nat.le_of_ble_eq_true rfl) dX0_init_47 (fun H locs hP hD hS => ?_)
  have hP : va_P D vwCl [(h0, .inr (0, [.int (0 : Int32), .int (0 : Int32), .int (0 : Int32), .int (0 : Int32), .int (0 : Int32), .int (0 : Int32), .int (0 : Int32), .ref q7, .ref q15, .ref q23, .ref q31, .ref q38, .ref q45])), (q7, .inl (cy 2, 7, .inl (fun _ => 0))), (q15, .inl (cy 2, 7, .inl (fun _ => 0))), (q23, .inl (cy 2, 6, .inl (fun _ => 0))), (q31, .inl (cy 2, 6, .inl (fun _ => 0))), (q38, .inl (cy 2, 5, .inl (fun _ => 0))), (q45, .inl (cy 2, 5, .inl (fun _ => 0)))] H := hP
  have hD : va_D A [(h0, .inr (0, [.int (0 : Int32), .int (0 : Int32), .int (0 : Int32), .int (0 : Int32), .int (0 : Int32), .int (0 : Int32), .int (0 : Int32), .ref q7, .ref q15, .ref q23, .ref q31, .ref q38, .ref q45])), (q7, .inl (cy 2, 7, .inl (fun _ => 0))), (q15, .inl (cy 2, 7, .inl (fun _ => 0))), (q23, .inl (cy 2, 6, .inl (fun _ => 0))), (q31, .inl (cy 2, 6, .inl (fun _ => 0))), (q38, .inl (cy 2, 5, .inl (fun _ => 0))), (q45, .inl (cy 2, 5, .inl (fun _ => 0)))] := hD
  refine W.widen (k := 6) (n := 36) (Nat.le_of_ble_eq_true rfl) (Nat.le_of_ble_eq_true rfl) ?_
  exact hret _ _ _ _ _ dX0_init_50 ⟨q7, q15, q23, q31, q38, q45, rfl⟩ hP hD hS

-- ===== X1_init constructor =====
abbrev r1_init : Room := { frames := 1, cells := 289, slots := 27359, locals := 12 }
set_option maxHeartbeats 4000000 in
set_option maxRecDepth 100000 in
theorem c1_init (l : Launch) (D : va_G) (cy : Nat → ClassId) (h0 : Nat) (sz : Nat) : CTn EO l yX1_init wsX1_init r1_init [.ref h0] D cy sz [(h0, .inr (1, [.null, .null]))] (fun w => ∃ (q10 : Nat) (r10 : Nat → Nat) (q20 : Nat), w = ([(h0, .inr (1, [.ref q10, .ref q20])), (q10, .inl (cy 6, 287, gO 287 r10)), (q20, .inl (cy 3, 94, .inr (.inl (fun _ => 0))))] ++ (gWL r10 287 94 (cy 3) (fun _ _ => 0)))) 289 27359 := by
  refine ct_on (cc := cX1_init) (maxL := 1) (by decide +kernel) rfl (Nat.le_of_ble_eq_true rfl) (lv0 := [(0, .ref h0)]) rfl ?_
  intro p e s m args below meth c A Q ls hx hb hts hown hml hin hE hK hP hD hS hA hret hl
  have hown : s.vm.findClass RX1 = some m.cls := hown
  have kl3 := hts (.methodLink RX1 3 objectInit) (List.mem_of_getElem? (i := 1) rfl)
  have kio := hts (.instanceMethod objectInit) (List.mem_of_getElem? (i := 2) rfl)
  have kco := hts (.code objectInit ⟨#[0xb1]⟩ 1 none) (List.mem_of_getElem? (i := 3) rfl)
  have kc11 := hts (.classLink RX1 11 "[[J") (List.mem_of_getElem? (i := 4) rfl)
  have ka_J := hts (.arrayClass .long) (List.mem_of_getElem? (i := 5) rfl)
  have iX1 := (fun w h => (List.mem_cons_of_mem _ (List.mem_append_right _ h)) : ∀ w ∈ wsX10, w ∈ wsX1_init)
  have k13 := hts (.fieldLink RX1 13 "CaveYears$ExactTimes" "times" "[[J") (List.mem_of_getElem? (i := 6) rfl)
  have k16 := hts (.fieldLink RX1 16 "CaveYears$ExactTimes" "rest" "[J") (List.mem_of_getElem? (i := 7) rfl)
  refine lv_aload_n hx hb dX1_init_0 rfl (lv_at hl 0 rfl) ?_
  refine W.objInit hx hb hown kl3 kio kco rfl (by rw [hml]; exact hl.1) rfl dX1_init_1 (Nat.le_of_ble_eq_true rfl) (Nat.le_of_ble_eq_true rfl) ?_
  refine W.eq (g2 := F0 m 4 ls []) rfl ?_
  refine lv_aload_n hx hb dX1_init_4 rfl (lv_at hl 0 rfl) ?_
  refine lv_sipush (v := 287) hx hb dX1_init_5 (by decide) ?_
  refine lv_bipush (v := 94) hx hb dX1_init_8 (by decide) ?_
  refine wv_mna (ty := .long) (ko := 6) (ki := 3) (N' := 287) (K' := 94) (z := (94, .inr (.inl (fun _ => 0)))) hx hb hown kc11 hE.2 ka_J rfl rfl (fun _ h => by cases h) (fun h => h) hK hP hD hS hA (by decide) (by decide) (by decide) (by decide) (Nat.le_of_ble_eq_true rfl) (Nat.le_of_ble_eq_true rfl) (Nat.le_of_ble_eq_true rfl) rfl rfl (Nat.le_of_ble_eq_true rfl) (Nat.le_of_ble_eq_true rfl) (fun cA => wv_iJ cA 94) dX1_init_10 (fun q10 r10 H hP hD hS => ?_)
  have hP : va_P D vwCl ([(h0, .inr (1, [.null, .null])), (q10, .inl (cy 6, 287, gO 287 r10))] ++ (gWL r10 287 94 (cy 3) (fun _ _ => 0))) H := hP
  have hD : va_D A ([(h0, .inr (1, [.null, .null])), (q10, .inl (cy 6, 287, gO 287 r10))] ++ (gWL r10 287 94 (cy 3) (fun _ _ => 0))) := hD
  refine W.widen (k := 288) (n := 27265) (Nat.le_of_ble_eq_true rfl) (Nat.le_of_ble_eq_true rfl) ?_
  refine va_putF (D := D) (ci := 1) (v := .ref q10) (ty := .array (.array .long)) (C := RX1) (T := TX1) (N := 2) hx hb hts iX1 tyX1 tyX1_ok nmX1 hown hK hP hD hS 0 rfl rfl 0 (by decide) k13 (fun _ h9 => h9) rfl hin rfl (by decide +kernel) rfl rfl (Nat.le_of_ble_eq_true rfl) dX1_init_14 (fun H locs hP hD hS => ?_)
  have hP : va_P D vwCl ([(h0, .inr (1, [.ref q10, .null])), (q10, .inl (cy 6, 287, gO 287 r10))] ++ (gWL r10 287 94 (cy 3) (fun _ _ => 0))) H := hP
  have hD : va_D A ([(h0, .inr (1, [.ref q10, .null])), (q10, .inl (cy 6, 287, gO 287 r10))] ++ (gWL r10 287 94 (cy 3) (fun _ _ => 0))) := hD
  refine lv_aload_n hx hb dX1_init_17 rfl (lv_at hl 0 rfl) ?_
  refine lv_bipush (v := 94) hx hb dX1_init_18 (by decide) ?_
  refine wv_newa (atype := .long) (ty := .long) (k := 3) (N' := 94) (a0 := (94, .inr (.inl (fun _ => 0)))) hx hb ka_J rfl rfl (fun _ h => by cases h) hK hP hD hS hA (fun cA => wv_zJ cA 94) (by decide) (by decide) (Nat.le_of_ble_eq_true rfl) (Nat.le_of_ble_eq_true rfl) (Nat.le_of_ble_eq_true rfl) dX1_init_20 (fun q20 H hP hD hS => ?_)
  have hP : va_P D vwCl ([(h0, .inr (1, [.ref q10, .null])), (q10, .inl (cy 6, 287, gO 287 r10)), (q20, .inl (cy 3, 94, .inr (.inl (fun _ => 0))))] ++ (gWL r10 287 94 (cy 3) (fun _ _ => 0))) H := vq_P (pm_last (x := (q20, .inl (cy 3, 94, .inr (.inl (fun _ => 0))))) (X := [(h0, .inr (1, [.ref q10, .null])), (q10, .inl (cy 6, 287, gO 287 r10))])) hP
  have hD : va_D A ([(h0, .inr (1, [.ref q10, .null])), (q10, .inl (cy 6, 287, gO 287 r10)), (q20, .inl (cy 3, 94, .inr (.inl (fun _ => 0))))] ++ (gWL r10 287 94 (cy 3) (fun _ _ => 0))) := vq_D (pm_last (x := (q20, .inl (cy 3, 94, .inr (.inl (fun _ => 0))))) (X := [(h0, .inr (1, [.ref q10, .null])), (q10, .inl (cy 6, 287, gO 287 r10))])) hD
  refine W.widen (k := 289) (n := 27359) (Nat.le_of_ble_eq_true rfl) (Nat.le_of_ble_eq_true rfl) ?_
  refine va_putF (D := D) (ci := 1) (v := .ref q20) (ty := .array .long) (C := RX1) (T := TX1) (N := 2) hx hb hts iX1 tyX1 tyX1_ok nmX1 hown hK hP hD hS 0 rfl rfl 1 (by decide) k16 (fun _ h9 => h9) rfl hin rfl (by decide +kernel) rfl rfl (Nat.le_of_ble_eq_true rfl) dX1_init_22 (fun H locs hP hD hS => ?_)
  have hP : va_P D vwCl ([(h0, .inr (1, [.ref q10, .ref q20])), (q10, .inl (cy 6, 287, gO 287 r10)), (q20, .inl (cy 3, 94, .inr (.inl (fun _ => 0))))] ++ (gWL r10 287 94 (cy 3) (fun _ _ => 0))) H := hP
  have hD : va_D A ([(h0, .inr (1, [.ref q10, .ref q20])), (q10, .inl (cy 6, 287, gO 287 r10)), (q20, .inl (cy 3, 94, .inr (.inl (fun _ => 0))))] ++ (gWL r10 287 94 (cy 3) (fun _ _ => 0))) := hD
  refine W.widen (k := 289) (n := 27359) (Nat.le_of_ble_eq_true rfl) (Nat.le_of_ble_eq_true rfl) ?_
  exact hret _ _ _ _ _ dX1_init_25 ⟨q10, r10, q20, rfl⟩ hP hD hS

-- ===== X2_init constructor =====
abbrev r2_init : Room := { frames := 1, cells := 3, slots := 18, locals := 12 }
set_option maxHeartbeats 4000000 in
set_option maxRecDepth 100000 in
theorem c2_init (l : Launch) (D : va_G) (cy : Nat → ClassId) (h0 : Nat) (sz : Nat) : CTn EO l yX2_init wsX2_init r2_init [.ref h0] D cy sz [(h0, .inr (2, [.int (0 : Int32), .int (0 : Int32), .int (0 : Int32), .null, .null, .null]))] (fun w => ∃ (q7 : Nat) (q15 : Nat) (q23 : Nat), w = [(h0, .inr (2, [.int (0 : Int32), .int (0 : Int32), .int (0 : Int32), .ref q7, .ref q15, .ref q23])), (q7, .inl (cy 2, 6, .inl (fun _ => 0))), (q15, .inl (cy 2, 6, .inl (fun _ => 0))), (q23, .inl (cy 2, 6, .inl (fun _ => 0)))]) 3 18 := by
  refine ct_on (cc := cX2_init) (maxL := 1) (by decide +kernel) rfl (Nat.le_of_ble_eq_true rfl) (lv0 := [(0, .ref h0)]) rfl ?_
  intro p e s m args below meth c A Q ls hx hb hts hown hml hin hE hK hP hD hS hA hret hl
  have hown : s.vm.findClass RX2 = some m.cls := hown
  have kl3 := hts (.methodLink RX2 3 objectInit) (List.mem_of_getElem? (i := 1) rfl)
  have kio := hts (.instanceMethod objectInit) (List.mem_of_getElem? (i := 2) rfl)
  have kco := hts (.code objectInit ⟨#[0xb1]⟩ 1 none) (List.mem_of_getElem? (i := 3) rfl)
  have ka_I := hts (.arrayClass .int) (List.mem_of_getElem? (i := 4) rfl)
  have iX2 := (fun w h => (List.mem_cons_of_mem _ (List.mem_append_right _ h)) : ∀ w ∈ wsX20, w ∈ wsX2_init)
  have k9 := hts (.fieldLink RX2 9 "CaveYears$Folk" "age" "[I") (List.mem_of_getElem? (i := 5) rfl)
  have k15 := hts (.fieldLink RX2 15 "CaveYears$Folk" "riches" "[I") (List.mem_of_getElem? (i := 6) rfl)
  have k18 := hts (.fieldLink RX2 18 "CaveYears$Folk" "out" "[I") (List.mem_of_getElem? (i := 7) rfl)
  refine lv_aload_n hx hb dX2_init_0 rfl (lv_at hl 0 rfl) ?_
  refine W.objInit hx hb hown kl3 kio kco rfl (by rw [hml]; exact hl.1) rfl dX2_init_1 (Nat.le_of_ble_eq_true rfl) (Nat.le_of_ble_eq_true rfl) ?_
  refine W.eq (g2 := F0 m 4 ls []) rfl ?_
  refine lv_aload_n hx hb dX2_init_4 rfl (lv_at hl 0 rfl) ?_
  refine lv_bipush (v := 6) hx hb dX2_init_5 (by decide) ?_
  refine wv_newa (atype := .int) (ty := .int) (k := 2) (N' := 6) (a0 := (6, .inl (fun _ => 0))) hx hb ka_I rfl rfl (fun _ h => by cases h) hK hP hD hS hA (fun cA => wv_zI cA 6) (by decide) (by decide) (Nat.le_of_ble_eq_true rfl) (Nat.le_of_ble_eq_true rfl) (Nat.le_of_ble_eq_true rfl) dX2_init_7 (fun q7 H hP hD hS => ?_)
  have hP : va_P D vwCl [(h0, .inr (2, [.int (0 : Int32), .int (0 : Int32), .int (0 : Int32), .null, .null, .null])), (q7, .inl (cy 2, 6, .inl (fun _ => 0)))] H := hP
  have hD : va_D A [(h0, .inr (2, [.int (0 : Int32), .int (0 : Int32), .int (0 : Int32), .null, .null, .null])), (q7, .inl (cy 2, 6, .inl (fun _ => 0)))] := hD
  refine W.widen (k := 1) (n := 6) (Nat.le_of_ble_eq_true rfl) (Nat.le_of_ble_eq_true rfl) ?_
  refine va_putF (D := D) (ci := 2) (v := .ref q7) (ty := .array .int) (C := RX2) (T := TX2) (N := 6) hx hb hts iX2 tyX2 tyX2_ok nmX2 hown hK hP hD hS 0 rfl rfl 3 (by decide) k9 (fun _ h9 => h9) rfl hin rfl (by decide +kernel) rfl rfl (Nat.le_of_ble_eq_true rfl) dX2_init_9 (fun H locs hP hD hS => ?_)
  have hP : va_P D vwCl [(h0, .inr (2, [.int (0 : Int32), .int (0 : Int32), .int (0 : Int32), .ref q7, .null, .null])), (q7, .inl (cy 2, 6, .inl (fun _ => 0)))] H := hP
  have hD : va_D A [(h0, .inr (2, [.int (0 : Int32), .int (0 : Int32), .int (0 : Int32), .ref q7, .null, .null])), (q7, .inl (cy 2, 6, .inl (fun _ => 0)))] := hD
  refine lv_aload_n hx hb dX2_init_12 rfl (lv_at hl 0 rfl) ?_
  refine lv_bipush (v := 6) hx hb dX2_init_13 (by decide) ?_
  refine wv_newa (atype := .int) (ty := .int) (k := 2) (N' := 6) (a0 := (6, .inl (fun _ => 0))) hx hb ka_I rfl rfl (fun _ h => by cases h) hK hP hD hS hA (fun cA => wv_zI cA 6) (by decide) (by decide) (Nat.le_of_ble_eq_true rfl) (Nat.le_of_ble_eq_true rfl) (Nat.le_of_ble_eq_true rfl) dX2_init_15 (fun q15 H hP hD hS => ?_)
  have hP : va_P D vwCl [(h0, .inr (2, [.int (0 : Int32), .int (0 : Int32), .int (0 : Int32), .ref q7, .null, .null])), (q7, .inl (cy 2, 6, .inl (fun _ => 0))), (q15, .inl (cy 2, 6, .inl (fun _ => 0)))] H := hP
  have hD : va_D A [(h0, .inr (2, [.int (0 : Int32), .int (0 : Int32), .int (0 : Int32), .ref q7, .null, .null])), (q7, .inl (cy 2, 6, .inl (fun _ => 0))), (q15, .inl (cy 2, 6, .inl (fun _ => 0)))] := hD
  refine W.widen (k := 2) (n := 12) (Nat.le_of_ble_eq_true rfl) (Nat.le_of_ble_eq_true rfl) ?_
  refine va_putF (D := D) (ci := 2) (v := .ref q15) (ty := .array .int) (C := RX2) (T := TX2) (N := 6) hx hb hts iX2 tyX2 tyX2_ok nmX2 hown hK hP hD hS 0 rfl rfl 4 (by decide) k15 (fun _ h9 => h9) rfl hin rfl (by decide +kernel) rfl rfl (Nat.le_of_ble_eq_true rfl) dX2_init_17 (fun H locs hP hD hS => ?_)
  have hP : va_P D vwCl [(h0, .inr (2, [.int (0 : Int32), .int (0 : Int32), .int (0 : Int32), .ref q7, .ref q15, .null])), (q7, .inl (cy 2, 6, .inl (fun _ => 0))), (q15, .inl (cy 2, 6, .inl (fun _ => 0)))] H := hP
  have hD : va_D A [(h0, .inr (2, [.int (0 : Int32), .int (0 : Int32), .int (0 : Int32), .ref q7, .ref q15, .null])), (q7, .inl (cy 2, 6, .inl (fun _ => 0))), (q15, .inl (cy 2, 6, .inl (fun _ => 0)))] := hD
  refine lv_aload_n hx hb dX2_init_20 rfl (lv_at hl 0 rfl) ?_
  refine lv_bipush (v := 6) hx hb dX2_init_21 (by decide) ?_
  refine wv_newa (atype := .int) (ty := .int) (k := 2) (N' := 6) (a0 := (6, .inl (fun _ => 0))) hx hb ka_I rfl rfl (fun _ h => by cases h) hK hP hD hS hA (fun cA => wv_zI cA 6) (by decide) (by decide) (Nat.le_of_ble_eq_true rfl) (Nat.le_of_ble_eq_true rfl) (Nat.le_of_ble_eq_true rfl) dX2_init_23 (fun q23 H hP hD hS => ?_)
  have hP : va_P D vwCl [(h0, .inr (2, [.int (0 : Int32), .int (0 : Int32), .int (0 : Int32), .ref q7, .ref q15, .null])), (q7, .inl (cy 2, 6, .inl (fun _ => 0))), (q15, .inl (cy 2, 6, .inl (fun _ => 0))), (q23, .inl (cy 2, 6, .inl (fun _ => 0)))] H := hP
  have hD : va_D A [(h0, .inr (2, [.int (0 : Int32), .int (0 : Int32), .int (0 : Int32), .ref q7, .ref q15, .null])), (q7, .inl (cy 2, 6, .inl (fun _ => 0))), (q15, .inl (cy 2, 6, .inl (fun _ => 0))), (q23, .inl (cy 2, 6, .inl (fun _ => 0)))] := hD
  refine W.widen (k := 3) (n := 18) (Nat.le_of_ble_eq_true rfl) (Nat.le_of_ble_eq_true rfl) ?_
  refine va_putF (D := D) (ci := 2) (v := .ref q23) (ty := .array .int) (C := RX2) (T := TX2) (N := 6) hx hb hts iX2 tyX2 tyX2_ok nmX2 hown hK hP hD hS 0 rfl rfl 5 (by decide) k18 (fun _ h9 => h9) rfl hin rfl (by decide +kernel) rfl rfl (Nat.le_of_ble_eq_true rfl) dX2_init_25 (fun H locs hP hD hS => ?_)
  have hP : va_P D vwCl [(h0, .inr (2, [.int (0 : Int32), .int (0 : Int32), .int (0 : Int32), .ref q7, .ref q15, .ref q23])), (q7, .inl (cy 2, 6, .inl (fun _ => 0))), (q15, .inl (cy 2, 6, .inl (fun _ => 0))), (q23, .inl (cy 2, 6, .inl (fun _ => 0)))] H := hP
  have hD : va_D A [(h0, .inr (2, [.int (0 : Int32), .int (0 : Int32), .int (0 : Int32), .ref q7, .ref q15, .ref q23])), (q7, .inl (cy 2, 6, .inl (fun _ => 0))), (q15, .inl (cy 2, 6, .inl (fun _ => 0))), (q23, .inl (cy 2, 6, .inl (fun _ => 0)))] := hD
  refine W.widen (k := 3) (n := 18) (Nat.le_of_ble_eq_true rfl) (Nat.le_of_ble_eq_true rfl) ?_
  exact hret _ _ _ _ _ dX2_init_28 ⟨q7, q15, q23, rfl⟩ hP hD hS

-- ===== X3_init constructor =====
abbrev r3_init : Room := { frames := 1, cells := 0, slots := 0, locals := 12 }
set_option maxHeartbeats 4000000 in
set_option maxRecDepth 100000 in
theorem c3_init (l : Launch) (D : va_G) (cy : Nat → ClassId) (h0 : Nat) (sz : Nat) : CTn EO l yX3_init wsX3_init r3_init [.ref h0] D cy sz [(h0, .inr (3, [.int (0 : Int32), .int (0 : Int32), .int (0 : Int32), .int (0 : Int32), .int (0 : Int32)]))] (fun w => w = [(h0, .inr (3, [.int (0 : Int32), .int (0 : Int32), .int (0 : Int32), .int (0 : Int32), .int (0 : Int32)]))]) 0 0 := by
  refine ct_on (cc := cX3_init) (maxL := 1) (by decide +kernel) rfl (Nat.le_of_ble_eq_true rfl) (lv0 := [(0, .ref h0)]) rfl ?_
  intro p e s m args below meth c A Q ls hx hb hts hown hml hin hE hK hP hD hS hA hret hl
  have hown : s.vm.findClass RX3 = some m.cls := hown
  have kl3 := hts (.methodLink RX3 3 objectInit) (List.mem_of_getElem? (i := 1) rfl)
  have kio := hts (.instanceMethod objectInit) (List.mem_of_getElem? (i := 2) rfl)
  have kco := hts (.code objectInit ⟨#[0xb1]⟩ 1 none) (List.mem_of_getElem? (i := 3) rfl)
  refine lv_aload_n hx hb dX3_init_0 rfl (lv_at hl 0 rfl) ?_
  refine W.objInit hx hb hown kl3 kio kco rfl (by rw [hml]; exact hl.1) rfl dX3_init_1 (Nat.le_of_ble_eq_true rfl) (Nat.le_of_ble_eq_true rfl) ?_
  refine W.eq (g2 := F0 m 4 ls []) rfl ?_
  refine W.widen (k := 0) (n := 0) (Nat.le_of_ble_eq_true rfl) (Nat.le_of_ble_eq_true rfl) ?_
  exact hret _ _ _ _ _ dX3_init_4 rfl hP hD hS

-- ===== X4_init constructor =====
abbrev r4_init : Room := { frames := 1, cells := 3, slots := 24, locals := 12 }
set_option maxHeartbeats 4000000 in
set_option maxRecDepth 100000 in
theorem c4_init (l : Launch) (D : va_G) (cy : Nat → ClassId) (h0 : Nat) (sz : Nat) : CTn EO l yX4_init wsX4_init r4_init [.ref h0] D cy sz [(h0, .inr (4, [.int (0 : Int32), .null, .null, .null]))] (fun w => ∃ (q7 : Nat) (q15 : Nat) (q23 : Nat), w = [(h0, .inr (4, [.int (0 : Int32), .ref q7, .ref q15, .ref q23])), (q7, .inl (cy 2, 8, .inl (fun _ => 0))), (q15, .inl (cy 2, 8, .inl (fun _ => 0))), (q23, .inl (cy 2, 8, .inl (fun _ => 0)))]) 3 24 := by
  refine ct_on (cc := cX4_init) (maxL := 1) (by decide +kernel) rfl (Nat.le_of_ble_eq_true rfl) (lv0 := [(0, .ref h0)]) rfl ?_
  intro p e s m args below meth c A Q ls hx hb hts hown hml hin hE hK hP hD hS hA hret hl
  have hown : s.vm.findClass RX4 = some m.cls := hown
  have kl3 := hts (.methodLink RX4 3 objectInit) (List.mem_of_getElem? (i := 1) rfl)
  have kio := hts (.instanceMethod objectInit) (List.mem_of_getElem? (i := 2) rfl)
  have kco := hts (.code objectInit ⟨#[0xb1]⟩ 1 none) (List.mem_of_getElem? (i := 3) rfl)
  have ka_I := hts (.arrayClass .int) (List.mem_of_getElem? (i := 4) rfl)
  have iX4 := (fun w h => (List.mem_cons_of_mem _ (List.mem_append_right _ h)) : ∀ w ∈ wsX40, w ∈ wsX4_init)
  have k9 := hts (.fieldLink RX4 9 "CaveYears$Registers" "man" "[I") (List.mem_of_getElem? (i := 5) rfl)
  have k15 := hts (.fieldLink RX4 15 "CaveYears$Registers" "date" "[I") (List.mem_of_getElem? (i := 6) rfl)
  have k18 := hts (.fieldLink RX4 18 "CaveYears$Registers" "age" "[I") (List.mem_of_getElem? (i := 7) rfl)
  refine lv_aload_n hx hb dX4_init_0 rfl (lv_at hl 0 rfl) ?_
  refine W.objInit hx hb hown kl3 kio kco rfl (by rw [hml]; exact hl.1) rfl dX4_init_1 (Nat.le_of_ble_eq_true rfl) (Nat.le_of_ble_eq_true rfl) ?_
  refine W.eq (g2 := F0 m 4 ls []) rfl ?_
  refine lv_aload_n hx hb dX4_init_4 rfl (lv_at hl 0 rfl) ?_
  refine lv_bipush (v := 8) hx hb dX4_init_5 (by decide) ?_
  refine wv_newa (atype := .int) (ty := .int) (k := 2) (N' := 8) (a0 := (8, .inl (fun _ => 0))) hx hb ka_I rfl rfl (fun _ h => by cases h) hK hP hD hS hA (fun cA => wv_zI cA 8) (by decide) (by decide) (Nat.le_of_ble_eq_true rfl) (Nat.le_of_ble_eq_true rfl) (Nat.le_of_ble_eq_true rfl) dX4_init_7 (fun q7 H hP hD hS => ?_)
  have hP : va_P D vwCl [(h0, .inr (4, [.int (0 : Int32), .null, .null, .null])), (q7, .inl (cy 2, 8, .inl (fun _ => 0)))] H := hP
  have hD : va_D A [(h0, .inr (4, [.int (0 : Int32), .null, .null, .null])), (q7, .inl (cy 2, 8, .inl (fun _ => 0)))] := hD
  refine W.widen (k := 1) (n := 8) (Nat.le_of_ble_eq_true rfl) (Nat.le_of_ble_eq_true rfl) ?_
  refine va_putF (D := D) (ci := 4) (v := .ref q7) (ty := .array .int) (C := RX4) (T := TX4) (N := 4) hx hb hts iX4 tyX4 tyX4_ok nmX4 hown hK hP hD hS 0 rfl rfl 1 (by decide) k9 (fun _ h9 => h9) rfl hin rfl (by decide +kernel) rfl rfl (Nat.le_of_ble_eq_true rfl) dX4_init_9 (fun H locs hP hD hS => ?_)
  have hP : va_P D vwCl [(h0, .inr (4, [.int (0 : Int32), .ref q7, .null, .null])), (q7, .inl (cy 2, 8, .inl (fun _ => 0)))] H := hP
  have hD : va_D A [(h0, .inr (4, [.int (0 : Int32), .ref q7, .null, .null])), (q7, .inl (cy 2, 8, .inl (fun _ => 0)))] := hD
  refine lv_aload_n hx hb dX4_init_12 rfl (lv_at hl 0 rfl) ?_
  refine lv_bipush (v := 8) hx hb dX4_init_13 (by decide) ?_
  refine wv_newa (atype := .int) (ty := .int) (k := 2) (N' := 8) (a0 := (8, .inl (fun _ => 0))) hx hb ka_I rfl rfl (fun _ h => by cases h) hK hP hD hS hA (fun cA => wv_zI cA 8) (by decide) (by decide) (Nat.le_of_ble_eq_true rfl) (Nat.le_of_ble_eq_true rfl) (Nat.le_of_ble_eq_true rfl) dX4_init_15 (fun q15 H hP hD hS => ?_)
  have hP : va_P D vwCl [(h0, .inr (4, [.int (0 : Int32), .ref q7, .null, .null])), (q7, .inl (cy 2, 8, .inl (fun _ => 0))), (q15, .inl (cy 2, 8, .inl (fun _ => 0)))] H := hP
  have hD : va_D A [(h0, .inr (4, [.int (0 : Int32), .ref q7, .null, .null])), (q7, .inl (cy 2, 8, .inl (fun _ => 0))), (q15, .inl (cy 2, 8, .inl (fun _ => 0)))] := hD
  refine W.widen (k := 2) (n := 16) (Nat.le_of_ble_eq_true rfl) (Nat.le_of_ble_eq_true rfl) ?_
  refine va_putF (D := D) (ci := 4) (v := .ref q15) (ty := .array .int) (C := RX4) (T := TX4) (N := 4) hx hb hts iX4 tyX4 tyX4_ok nmX4 hown hK hP hD hS 0 rfl rfl 2 (by decide) k15 (fun _ h9 => h9) rfl hin rfl (by decide +kernel) rfl rfl (Nat.le_of_ble_eq_true rfl) dX4_init_17 (fun H locs hP hD hS => ?_)
  have hP : va_P D vwCl [(h0, .inr (4, [.int (0 : Int32), .ref q7, .ref q15, .null])), (q7, .inl (cy 2, 8, .inl (fun _ => 0))), (q15, .inl (cy 2, 8, .inl (fun _ => 0)))] H := hP
  have hD : va_D A [(h0, .inr (4, [.int (0 : Int32), .ref q7, .ref q15, .null])), (q7, .inl (cy 2, 8, .inl (fun _ => 0))), (q15, .inl (cy 2, 8, .inl (fun _ => 0)))] := hD
  refine lv_aload_n hx hb dX4_init_20 rfl (lv_at hl 0 rfl) ?_
  refine lv_bipush (v := 8) hx hb dX4_init_21 (by decide) ?_
  refine wv_newa (atype := .int) (ty := .int) (k := 2) (N' := 8) (a0 := (8, .inl (fun _ => 0))) hx hb ka_I rfl rfl (fun _ h => by cases h) hK hP hD hS hA (fun cA => wv_zI cA 8) (by decide) (by decide) (Nat.le_of_ble_eq_true rfl) (Nat.le_of_ble_eq_true rfl) (Nat.le_of_ble_eq_true rfl) dX4_init_23 (fun q23 H hP hD hS => ?_)
  have hP : va_P D vwCl [(h0, .inr (4, [.int (0 : Int32), .ref q7, .ref q15, .null])), (q7, .inl (cy 2, 8, .inl (fun _ => 0))), (q15, .inl (cy 2, 8, .inl (fun _ => 0))), (q23, .inl (cy 2, 8, .inl (fun _ => 0)))] H := hP
  have hD : va_D A [(h0, .inr (4, [.int (0 : Int32), .ref q7, .ref q15, .null])), (q7, .inl (cy 2, 8, .inl (fun _ => 0))), (q15, .inl (cy 2, 8, .inl (fun _ => 0))), (q23, .inl (cy 2, 8, .inl (fun _ => 0)))] := hD
  refine W.widen (k := 3) (n := 24) (Nat.le_of_ble_eq_true rfl) (Nat.le_of_ble_eq_true rfl) ?_
  refine va_putF (D := D) (ci := 4) (v := .ref q23) (ty := .array .int) (C := RX4) (T := TX4) (N := 4) hx hb hts iX4 tyX4 tyX4_ok nmX4 hown hK hP hD hS 0 rfl rfl 3 (by decide) k18 (fun _ h9 => h9) rfl hin rfl (by decide +kernel) rfl rfl (Nat.le_of_ble_eq_true rfl) dX4_init_25 (fun H locs hP hD hS => ?_)
  have hP : va_P D vwCl [(h0, .inr (4, [.int (0 : Int32), .ref q7, .ref q15, .ref q23])), (q7, .inl (cy 2, 8, .inl (fun _ => 0))), (q15, .inl (cy 2, 8, .inl (fun _ => 0))), (q23, .inl (cy 2, 8, .inl (fun _ => 0)))] H := hP
  have hD : va_D A [(h0, .inr (4, [.int (0 : Int32), .ref q7, .ref q15, .ref q23])), (q7, .inl (cy 2, 8, .inl (fun _ => 0))), (q15, .inl (cy 2, 8, .inl (fun _ => 0))), (q23, .inl (cy 2, 8, .inl (fun _ => 0)))] := hD
  refine W.widen (k := 3) (n := 24) (Nat.le_of_ble_eq_true rfl) (Nat.le_of_ble_eq_true rfl) ?_
  exact hret _ _ _ _ _ dX4_init_28 ⟨q7, q15, q23, rfl⟩ hP hD hS

-- ===== X5_init constructor =====
abbrev r5_init : Room := { frames := 1, cells := 84, slots := 656, locals := 12 }
set_option maxHeartbeats 4000000 in
set_option maxRecDepth 100000 in
theorem c5_init (l : Launch) (D : va_G) (cy : Nat → ClassId) (h0 : Nat) (sz : Nat) : CTn EO l yX5_init wsX5_init r5_init [.ref h0] D cy sz [(h0, .inr (5, [.null, .null]))] (fun w => ∃ (q9 : Nat) (r9 : Nat → Nat) (q21 : Nat) (r21 : Nat → Nat), w = ([(h0, .inr (5, [.ref q9, .ref q21])), (q9, .inl (cy 5, 41, gO 41 r9)), (q21, .inl (cy 5, 41, gO 41 r21))] ++ (gW r9 41 7 (cy 2) (fun _ _ => 0) ++ gW r21 41 7 (cy 2) (fun _ _ => 0)))) 84 656 := by
  refine ct_on (cc := cX5_init) (maxL := 1) (by decide +kernel) rfl (Nat.le_of_ble_eq_true rfl) (lv0 := [(0, .ref h0)]) rfl ?_
  intro p e s m args below meth c A Q ls hx hb hts hown hml hin hE hK hP hD hS hA hret hl
  have hown : s.vm.findClass RX5 = some m.cls := hown
  have kl3 := hts (.methodLink RX5 3 objectInit) (List.mem_of_getElem? (i := 1) rfl)
  have kio := hts (.instanceMethod objectInit) (List.mem_of_getElem? (i := 2) rfl)
  have kco := hts (.code objectInit ⟨#[0xb1]⟩ 1 none) (List.mem_of_getElem? (i := 3) rfl)
  have kc9 := hts (.classLink RX5 9 "[[I") (List.mem_of_getElem? (i := 4) rfl)
  have ka_I := hts (.arrayClass .int) (List.mem_of_getElem? (i := 5) rfl)
  have iX5 := (fun w h => (List.mem_cons_of_mem _ (List.mem_append_right _ h)) : ∀ w ∈ wsX50, w ∈ wsX5_init)
  have k11 := hts (.fieldLink RX5 11 "CaveYears$Spans" "least" "[[I") (List.mem_of_getElem? (i := 6) rfl)
  have k16 := hts (.fieldLink RX5 16 "CaveYears$Spans" "most" "[[I") (List.mem_of_getElem? (i := 7) rfl)
  refine lv_aload_n hx hb dX5_init_0 rfl (lv_at hl 0 rfl) ?_
  refine W.objInit hx hb hown kl3 kio kco rfl (by rw [hml]; exact hl.1) rfl dX5_init_1 (Nat.le_of_ble_eq_true rfl) (Nat.le_of_ble_eq_true rfl) ?_
  refine W.eq (g2 := F0 m 4 ls []) rfl ?_
  refine lv_aload_n hx hb dX5_init_4 rfl (lv_at hl 0 rfl) ?_
  refine lv_bipush (v := 41) hx hb dX5_init_5 (by decide) ?_
  refine lv_bipush (v := 7) hx hb dX5_init_7 (by decide) ?_
  refine wv_mna (ty := .int) (ko := 5) (ki := 2) (N' := 41) (K' := 7) (z := (7, .inl (fun _ => 0))) hx hb hown kc9 hE.1 ka_I rfl rfl (fun _ h => by cases h) (fun h => h) hK hP hD hS hA (by decide) (by decide) (by decide) (by decide) (Nat.le_of_ble_eq_true rfl) (Nat.le_of_ble_eq_true rfl) (Nat.le_of_ble_eq_true rfl) rfl rfl (Nat.le_of_ble_eq_true rfl) (Nat.le_of_ble_eq_true rfl) (fun cA => wv_iI cA 7) dX5_init_9 (fun q9 r9 H hP hD hS => ?_)
  have hP : va_P D vwCl ([(h0, .inr (5, [.null, .null])), (q9, .inl (cy 5, 41, gO 41 r9))] ++ (gW r9 41 7 (cy 2) (fun _ _ => 0))) H := hP
  have hD : va_D A ([(h0, .inr (5, [.null, .null])), (q9, .inl (cy 5, 41, gO 41 r9))] ++ (gW r9 41 7 (cy 2) (fun _ _ => 0))) := hD
  refine W.widen (k := 42) (n := 328) (Nat.le_of_ble_eq_true rfl) (Nat.le_of_ble_eq_true rfl) ?_
  refine va_putF (D := D) (ci := 5) (v := .ref q9) (ty := .array (.array .int)) (C := RX5) (T := TX5) (N := 2) hx hb hts iX5 tyX5 tyX5_ok nmX5 hown hK hP hD hS 0 rfl rfl 0 (by decide) k11 (fun _ h9 => h9) rfl hin rfl (by decide +kernel) rfl rfl (Nat.le_of_ble_eq_true rfl) dX5_init_13 (fun H locs hP hD hS => ?_)
  have hP : va_P D vwCl ([(h0, .inr (5, [.ref q9, .null])), (q9, .inl (cy 5, 41, gO 41 r9))] ++ (gW r9 41 7 (cy 2) (fun _ _ => 0))) H := hP
  have hD : va_D A ([(h0, .inr (5, [.ref q9, .null])), (q9, .inl (cy 5, 41, gO 41 r9))] ++ (gW r9 41 7 (cy 2) (fun _ _ => 0))) := hD
  refine lv_aload_n hx hb dX5_init_16 rfl (lv_at hl 0 rfl) ?_
  refine lv_bipush (v := 41) hx hb dX5_init_17 (by decide) ?_
  refine lv_bipush (v := 7) hx hb dX5_init_19 (by decide) ?_
  refine wv_mna (ty := .int) (ko := 5) (ki := 2) (N' := 41) (K' := 7) (z := (7, .inl (fun _ => 0))) hx hb hown kc9 hE.1 ka_I rfl rfl (fun _ h => by cases h) (fun h => h) hK hP hD hS hA (by decide) (by decide) (by decide) (by decide) (Nat.le_of_ble_eq_true rfl) (Nat.le_of_ble_eq_true rfl) (Nat.le_of_ble_eq_true rfl) rfl rfl (Nat.le_of_ble_eq_true rfl) (Nat.le_of_ble_eq_true rfl) (fun cA => wv_iI cA 7) dX5_init_21 (fun q21 r21 H hP hD hS => ?_)
  have hp9 := pm_last2 (x := (q21, .inl (cy 5, 41, gO 41 r21))) (X := [(h0, .inr (5, [.ref q9, .null])), (q9, .inl (cy 5, 41, gO 41 r9))]) (pl := gW r9 41 7 (cy 2) (fun _ _ => 0)) (pl2 := gW r21 41 7 (cy 2) (fun _ _ => 0))
  have hP : va_P D vwCl ([(h0, .inr (5, [.ref q9, .null])), (q9, .inl (cy 5, 41, gO 41 r9)), (q21, .inl (cy 5, 41, gO 41 r21))] ++ (gW r9 41 7 (cy 2) (fun _ _ => 0) ++ gW r21 41 7 (cy 2) (fun _ _ => 0))) H := vq_P hp9 hP
  have hD : va_D A ([(h0, .inr (5, [.ref q9, .null])), (q9, .inl (cy 5, 41, gO 41 r9)), (q21, .inl (cy 5, 41, gO 41 r21))] ++ (gW r9 41 7 (cy 2) (fun _ _ => 0) ++ gW r21 41 7 (cy 2) (fun _ _ => 0))) := vq_D hp9 hD
  refine W.widen (k := 84) (n := 656) (Nat.le_of_ble_eq_true rfl) (Nat.le_of_ble_eq_true rfl) ?_
  refine va_putF (D := D) (ci := 5) (v := .ref q21) (ty := .array (.array .int)) (C := RX5) (T := TX5) (N := 2) hx hb hts iX5 tyX5 tyX5_ok nmX5 hown hK hP hD hS 0 rfl rfl 1 (by decide) k16 (fun _ h9 => h9) rfl hin rfl (by decide +kernel) rfl rfl (Nat.le_of_ble_eq_true rfl) dX5_init_25 (fun H locs hP hD hS => ?_)
  have hP : va_P D vwCl ([(h0, .inr (5, [.ref q9, .ref q21])), (q9, .inl (cy 5, 41, gO 41 r9)), (q21, .inl (cy 5, 41, gO 41 r21))] ++ (gW r9 41 7 (cy 2) (fun _ _ => 0) ++ gW r21 41 7 (cy 2) (fun _ _ => 0))) H := hP
  have hD : va_D A ([(h0, .inr (5, [.ref q9, .ref q21])), (q9, .inl (cy 5, 41, gO 41 r9)), (q21, .inl (cy 5, 41, gO 41 r21))] ++ (gW r9 41 7 (cy 2) (fun _ _ => 0) ++ gW r21 41 7 (cy 2) (fun _ _ => 0))) := hD
  refine W.widen (k := 84) (n := 656) (Nat.le_of_ble_eq_true rfl) (Nat.le_of_ble_eq_true rfl) ?_
  exact hret _ _ _ _ _ dX5_init_28 ⟨q9, r9, q21, r21, rfl⟩ hP hD hS

-- ===== X6_init constructor =====
abbrev r6_init : Room := { frames := 1, cells := 1, slots := 40, locals := 12 }
set_option maxHeartbeats 4000000 in
set_option maxRecDepth 100000 in
theorem c6_init (l : Launch) (D : va_G) (cy : Nat → ClassId) (h0 : Nat) (sz : Nat) : CTn EO l yX6_init wsX6_init r6_init [.ref h0] D cy sz [(h0, .inr (6, [.int (0 : Int32), .null]))] (fun w => ∃ (q7 : Nat), w = [(h0, .inr (6, [.int (0 : Int32), .ref q7])), (q7, .inl (cy 2, 40, .inl (fun _ => 0)))]) 1 40 := by
  refine ct_on (cc := cX6_init) (maxL := 1) (by decide +kernel) rfl (Nat.le_of_ble_eq_true rfl) (lv0 := [(0, .ref h0)]) rfl ?_
  intro p e s m args below meth c A Q ls hx hb hts hown hml hin hE hK hP hD hS hA hret hl
  have hown : s.vm.findClass RX6 = some m.cls := hown
  have kl3 := hts (.methodLink RX6 3 objectInit) (List.mem_of_getElem? (i := 1) rfl)
  have kio := hts (.instanceMethod objectInit) (List.mem_of_getElem? (i := 2) rfl)
  have kco := hts (.code objectInit ⟨#[0xb1]⟩ 1 none) (List.mem_of_getElem? (i := 3) rfl)
  have ka_I := hts (.arrayClass .int) (List.mem_of_getElem? (i := 4) rfl)
  have iX6 := (fun w h => (List.mem_cons_of_mem _ (List.mem_append_right _ h)) : ∀ w ∈ wsX60, w ∈ wsX6_init)
  have k9 := hts (.fieldLink RX6 9 "CaveYears$Stay" "partOf" "[I") (List.mem_of_getElem? (i := 5) rfl)
  refine lv_aload_n hx hb dX6_init_0 rfl (lv_at hl 0 rfl) ?_
  refine W.objInit hx hb hown kl3 kio kco rfl (by rw [hml]; exact hl.1) rfl dX6_init_1 (Nat.le_of_ble_eq_true rfl) (Nat.le_of_ble_eq_true rfl) ?_
  refine W.eq (g2 := F0 m 4 ls []) rfl ?_
  refine lv_aload_n hx hb dX6_init_4 rfl (lv_at hl 0 rfl) ?_
  refine lv_bipush (v := 40) hx hb dX6_init_5 (by decide) ?_
  refine wv_newa (atype := .int) (ty := .int) (k := 2) (N' := 40) (a0 := (40, .inl (fun _ => 0))) hx hb ka_I rfl rfl (fun _ h => by cases h) hK hP hD hS hA (fun cA => wv_zI cA 40) (by decide) (by decide) (Nat.le_of_ble_eq_true rfl) (Nat.le_of_ble_eq_true rfl) (Nat.le_of_ble_eq_true rfl) dX6_init_7 (fun q7 H hP hD hS => ?_)
  have hP : va_P D vwCl [(h0, .inr (6, [.int (0 : Int32), .null])), (q7, .inl (cy 2, 40, .inl (fun _ => 0)))] H := hP
  have hD : va_D A [(h0, .inr (6, [.int (0 : Int32), .null])), (q7, .inl (cy 2, 40, .inl (fun _ => 0)))] := hD
  refine W.widen (k := 1) (n := 40) (Nat.le_of_ble_eq_true rfl) (Nat.le_of_ble_eq_true rfl) ?_
  refine va_putF (D := D) (ci := 6) (v := .ref q7) (ty := .array .int) (C := RX6) (T := TX6) (N := 2) hx hb hts iX6 tyX6 tyX6_ok nmX6 hown hK hP hD hS 0 rfl rfl 1 (by decide) k9 (fun _ h9 => h9) rfl hin rfl (by decide +kernel) rfl rfl (Nat.le_of_ble_eq_true rfl) dX6_init_9 (fun H locs hP hD hS => ?_)
  have hP : va_P D vwCl [(h0, .inr (6, [.int (0 : Int32), .ref q7])), (q7, .inl (cy 2, 40, .inl (fun _ => 0)))] H := hP
  have hD : va_D A [(h0, .inr (6, [.int (0 : Int32), .ref q7])), (q7, .inl (cy 2, 40, .inl (fun _ => 0)))] := hD
  refine W.widen (k := 1) (n := 40) (Nat.le_of_ble_eq_true rfl) (Nat.le_of_ble_eq_true rfl) ?_
  exact hret _ _ _ _ _ dX6_init_12 ⟨q7, rfl⟩ hP hD hS

-- ===== X7_init constructor =====
abbrev r7_init : Room := { frames := 1, cells := 2, slots := 20, locals := 12 }
set_option maxHeartbeats 4000000 in
set_option maxRecDepth 100000 in
theorem c7_init (l : Launch) (D : va_G) (cy : Nat → ClassId) (h0 : Nat) (sz : Nat) : CTn EO l yX7_init wsX7_init r7_init [.ref h0] D cy sz [(h0, .inr (7, [.int (0 : Int32), .null, .null]))] (fun w => ∃ (q7 : Nat) (q15 : Nat), w = [(h0, .inr (7, [.int (0 : Int32), .ref q7, .ref q15])), (q7, .inl (cy 2, 10, .inl (fun _ => 0))), (q15, .inl (cy 2, 10, .inl (fun _ => 0)))]) 2 20 := by
  refine ct_on (cc := cX7_init) (maxL := 1) (by decide +kernel) rfl (Nat.le_of_ble_eq_true rfl) (lv0 := [(0, .ref h0)]) rfl ?_
  intro p e s m args below meth c A Q ls hx hb hts hown hml hin hE hK hP hD hS hA hret hl
  have hown : s.vm.findClass RX7 = some m.cls := hown
  have kl3 := hts (.methodLink RX7 3 objectInit) (List.mem_of_getElem? (i := 1) rfl)
  have kio := hts (.instanceMethod objectInit) (List.mem_of_getElem? (i := 2) rfl)
  have kco := hts (.code objectInit ⟨#[0xb1]⟩ 1 none) (List.mem_of_getElem? (i := 3) rfl)
  have ka_I := hts (.arrayClass .int) (List.mem_of_getElem? (i := 4) rfl)
  have iX7 := (fun w h => (List.mem_cons_of_mem _ (List.mem_append_right _ h)) : ∀ w ∈ wsX70, w ∈ wsX7_init)
  have k9 := hts (.fieldLink RX7 9 "CaveYears$Trials" "days" "[I") (List.mem_of_getElem? (i := 5) rfl)
  have k15 := hts (.fieldLink RX7 15 "CaveYears$Trials" "ticks" "[I") (List.mem_of_getElem? (i := 6) rfl)
  refine lv_aload_n hx hb dX7_init_0 rfl (lv_at hl 0 rfl) ?_
  refine W.objInit hx hb hown kl3 kio kco rfl (by rw [hml]; exact hl.1) rfl dX7_init_1 (Nat.le_of_ble_eq_true rfl) (Nat.le_of_ble_eq_true rfl) ?_
  refine W.eq (g2 := F0 m 4 ls []) rfl ?_
  refine lv_aload_n hx hb dX7_init_4 rfl (lv_at hl 0 rfl) ?_
  refine lv_bipush (v := 10) hx hb dX7_init_5 (by decide) ?_
  refine wv_newa (atype := .int) (ty := .int) (k := 2) (N' := 10) (a0 := (10, .inl (fun _ => 0))) hx hb ka_I rfl rfl (fun _ h => by cases h) hK hP hD hS hA (fun cA => wv_zI cA 10) (by decide) (by decide) (Nat.le_of_ble_eq_true rfl) (Nat.le_of_ble_eq_true rfl) (Nat.le_of_ble_eq_true rfl) dX7_init_7 (fun q7 H hP hD hS => ?_)
  have hP : va_P D vwCl [(h0, .inr (7, [.int (0 : Int32), .null, .null])), (q7, .inl (cy 2, 10, .inl (fun _ => 0)))] H := hP
  have hD : va_D A [(h0, .inr (7, [.int (0 : Int32), .null, .null])), (q7, .inl (cy 2, 10, .inl (fun _ => 0)))] := hD
  refine W.widen (k := 1) (n := 10) (Nat.le_of_ble_eq_true rfl) (Nat.le_of_ble_eq_true rfl) ?_
  refine va_putF (D := D) (ci := 7) (v := .ref q7) (ty := .array .int) (C := RX7) (T := TX7) (N := 3) hx hb hts iX7 tyX7 tyX7_ok nmX7 hown hK hP hD hS 0 rfl rfl 1 (by decide) k9 (fun _ h9 => h9) rfl hin rfl (by decide +kernel) rfl rfl (Nat.le_of_ble_eq_true rfl) dX7_init_9 (fun H locs hP hD hS => ?_)
  have hP : va_P D vwCl [(h0, .inr (7, [.int (0 : Int32), .ref q7, .null])), (q7, .inl (cy 2, 10, .inl (fun _ => 0)))] H := hP
  have hD : va_D A [(h0, .inr (7, [.int (0 : Int32), .ref q7, .null])), (q7, .inl (cy 2, 10, .inl (fun _ => 0)))] := hD
  refine lv_aload_n hx hb dX7_init_12 rfl (lv_at hl 0 rfl) ?_
  refine lv_bipush (v := 10) hx hb dX7_init_13 (by decide) ?_
  refine wv_newa (atype := .int) (ty := .int) (k := 2) (N' := 10) (a0 := (10, .inl (fun _ => 0))) hx hb ka_I rfl rfl (fun _ h => by cases h) hK hP hD hS hA (fun cA => wv_zI cA 10) (by decide) (by decide) (Nat.le_of_ble_eq_true rfl) (Nat.le_of_ble_eq_true rfl) (Nat.le_of_ble_eq_true rfl) dX7_init_15 (fun q15 H hP hD hS => ?_)
  have hP : va_P D vwCl [(h0, .inr (7, [.int (0 : Int32), .ref q7, .null])), (q7, .inl (cy 2, 10, .inl (fun _ => 0))), (q15, .inl (cy 2, 10, .inl (fun _ => 0)))] H := hP
  have hD : va_D A [(h0, .inr (7, [.int (0 : Int32), .ref q7, .null])), (q7, .inl (cy 2, 10, .inl (fun _ => 0))), (q15, .inl (cy 2, 10, .inl (fun _ => 0)))] := hD
  refine W.widen (k := 2) (n := 20) (Nat.le_of_ble_eq_true rfl) (Nat.le_of_ble_eq_true rfl) ?_
  refine va_putF (D := D) (ci := 7) (v := .ref q15) (ty := .array .int) (C := RX7) (T := TX7) (N := 3) hx hb hts iX7 tyX7 tyX7_ok nmX7 hown hK hP hD hS 0 rfl rfl 2 (by decide) k15 (fun _ h9 => h9) rfl hin rfl (by decide +kernel) rfl rfl (Nat.le_of_ble_eq_true rfl) dX7_init_17 (fun H locs hP hD hS => ?_)
  have hP : va_P D vwCl [(h0, .inr (7, [.int (0 : Int32), .ref q7, .ref q15])), (q7, .inl (cy 2, 10, .inl (fun _ => 0))), (q15, .inl (cy 2, 10, .inl (fun _ => 0)))] H := hP
  have hD : va_D A [(h0, .inr (7, [.int (0 : Int32), .ref q7, .ref q15])), (q7, .inl (cy 2, 10, .inl (fun _ => 0))), (q15, .inl (cy 2, 10, .inl (fun _ => 0)))] := hD
  refine W.widen (k := 2) (n := 20) (Nat.le_of_ble_eq_true rfl) (Nat.le_of_ble_eq_true rfl) ?_
  exact hret _ _ _ _ _ dX7_init_20 ⟨q7, q15, rfl⟩ hP hD hS
