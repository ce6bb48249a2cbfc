-- ===== X5_leastTime leastTime (II)I =====
abbrev r5_leastTime : Room := { frames := 1, cells := 0, slots := 0, locals := 21 }
def f5_leastTime (N : Nat) (p1 : Int32) (p2 : Int32) (v_least : Nat → Nat → Int32) (v_most : Nat → Nat → Int32) : Option Int32 :=
  ob1 (f5_isCell N p1 p2) fun r2 => if r2 = (0 : Int32) then (some (-1 : Int32)) else (gi p1 41 (gi p2 7 (some ((v_least p1.toNatClampNeg) p2.toNatClampNeg))))
set_option maxHeartbeats 4000000 in
set_option maxRecDepth 100000 in
theorem c5_leastTime (l : Launch) (D : va_G) (cy : Nat → ClassId) (N : Nat) (rh0_least : Nat → Nat) (rh0_most : Nat → Nat) (h0 h0_least h0_most : Nat) (oh0_1 : Value) (p1 : Int32) (p2 : Int32) (v_least : Nat → Nat → Int32) (v_most : Nat → Nat → Int32) (r : Int32) (hM : f5_leastTime N p1 p2 v_least v_most = some r) (sz : Nat) : CTi l yX5_leastTime wsX5_leastTime r5_leastTime [.ref h0, .int p1, .int p2] D cy sz ([(h0, .inr (5, [.ref h0_least, oh0_1])), (h0_least, .inl (cy 5, 41, gO 41 rh0_least)), (h0_most, .inl (cy 5, 41, gO 41 rh0_most))] ++ (gW rh0_least 41 7 (cy 2) v_least ++ gW rh0_most 41 7 (cy 2) v_most)) ([(h0, .inr (5, [.ref h0_least, oh0_1])), (h0_least, .inl (cy 5, 41, gO 41 rh0_least)), (h0_most, .inl (cy 5, 41, gO 41 rh0_most))] ++ (gW rh0_least 41 7 (cy 2) v_least ++ gW rh0_most 41 7 (cy 2) v_most)) r := by
  unfold f5_leastTime at hM
  refine ct_oi (cc := cX5_leastTime) (maxL := 3) (ty := .int) (by decide +kernel) rfl (Nat.le_of_ble_eq_true rfl) (lv0 := [(0, .ref h0), (1, .int p1), (2, .int p2)]) rfl ?_
  intro p e s m args below meth c A Q ls hx hb hts hown hml hK hP hD hS hA hret hl
  have hown : s.vm.findClass RX5 = some m.cls := hown
  have k11 := hts (.fieldLink RX5 11 "CaveYears$Spans" "least" "[[I") (List.mem_of_getElem? (i := 1) rfl)
  have iX5 := (fun w h => (List.mem_cons_of_mem _ (List.mem_append_right _ h)) : ∀ w ∈ wsX50, w ∈ wsX5_leastTime)
  refine lv_iload_n hx hb dX5_leastTime_0 rfl (lv_at hl 1 rfl) ?_
  refine lv_iload_n hx hb dX5_leastTime_1 rfl (lv_at hl 2 rfl) ?_
  obtain ⟨r2, hc2, hM⟩ := ob1_some hM
  refine cg_si (As := [.int p1, .int p2]) (rest := []) (wr := ([(h0, .inr (5, [.ref h0_least, oh0_1])), (h0_least, .inl (cy 5, 41, gO 41 rh0_least)), (h0_most, .inl (cy 5, 41, gO 41 rh0_most))] ++ (gW rh0_least 41 7 (cy 2) v_least ++ gW rh0_most 41 7 (cy 2) v_most))) (ws2 := ([(h0, .inr (5, [.ref h0_least, oh0_1])), (h0_least, .inl (cy 5, 41, gO 41 rh0_least)), (h0_most, .inl (cy 5, 41, gO 41 rh0_most))] ++ (gW rh0_least 41 7 (cy 2) v_least ++ gW rh0_most 41 7 (cy 2) v_most))) hx hb hml hown hts (c5_isCell l D cy N p1 p2 r2 hc2) (va_cwS 2 hts gX5_leastTime_X5_isCell rfl rfl rfl (by decide +kernel) ⟨Nat.le_of_ble_eq_true rfl, Nat.le_of_ble_eq_true rfl⟩) hK hP hD hS hA (pm_Q (pm_x [0, 1, 2] rfl rfl)) (pm_Q (pm_x [0, 1, 2] rfl rfl)).symm rfl rfl hl.1 (Nat.le_of_ble_eq_true rfl) dX5_leastTime_2 ⟨Nat.zero_le _, Nat.zero_le _⟩ (fun H locs hP hD hS => ?_)
  refine lv_if_eq (tgt := 19) hx hb dX5_leastTime_5 (by decide) (fun c5 => ?_) (fun c5 => ?_)
  · have hM := g_pos c5 hM
    refine lv_iconst (v := -1) hx hb dX5_leastTime_19 (by decide) ?_
    obtain rfl := si1 hM
    exact hret _ _ _ _ _ dX5_leastTime_20 rfl rfl hP hD hS
  · have hM := g_neg c5 hM
    refine lv_aload_n hx hb dX5_leastTime_8 rfl (lv_at hl 0 rfl) ?_
    refine va_get (D := D) (ci := 5) (v := .ref h0_least) (C := RX5) (T := TX5) (N := 2) hx hb hts iX5 hown hK hP 0 rfl rfl 0 (by decide) k11 (fun _ h9 => h9) rfl dX5_leastTime_9 ?_
    refine lv_iload_n hx hb dX5_leastTime_12 rfl (lv_at hl 1 rfl) ?_
    obtain ⟨h13, hM⟩ := gi_some hM
    refine wv_aald hx hb hK hP 1 5 rfl rfl h13 dX5_leastTime_13 ?_
    refine lv_iload_n hx hb dX5_leastTime_14 rfl (lv_at hl 2 rfl) ?_
    obtain ⟨h15, hM⟩ := gi_some hM
    refine wv_iald hx hb hK hP 2 (gW_rowA h13) rfl h15 dX5_leastTime_15 ?_
    refine lv_goto (tgt := 20) hx hb dX5_leastTime_16 (by decide) ?_
    obtain rfl := si1 hM
    exact hret _ _ _ _ _ dX5_leastTime_20 rfl rfl hP hD hS
