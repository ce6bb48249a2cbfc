-- ===== X5_isCell isCell (II)Z =====
abbrev r5_isCell : Room := { frames := 0, cells := 0, slots := 0, locals := 0 }
def f5_isCell (N : Nat) (p1 : Int32) (p2 : Int32) : Option Int32 :=
  if p1 < (1 : Int32) then (some (0 : Int32)) else (if (40 : Int32) < p1 then (some (0 : Int32)) else (if p2 < (0 : Int32) then (some (0 : Int32)) else (if (7 : Int32) ≤ p2 then (some (0 : Int32)) else (some (1 : Int32)))))
set_option maxHeartbeats 4000000 in
set_option maxRecDepth 100000 in
theorem c5_isCell (l : Launch) (D : va_G) (cy : Nat → ClassId) (N : Nat) (p1 : Int32) (p2 : Int32) (r : Int32) (hM : f5_isCell N p1 p2 = some r) (sz : Nat) : CTi l yX5_isCell wsX5_isCell r5_isCell [.int p1, .int p2] D cy sz [] [] r := by
  unfold f5_isCell at hM
  refine ct_oi (cc := cX5_isCell) (maxL := 2) (ty := .boolean) (by decide +kernel) rfl (Nat.le_of_ble_eq_true rfl) (lv0 := [(0, .int p1), (1, .int p2)]) rfl ?_
  intro p e s m args below meth c A Q ls hx hb hts hown hml hK hP hD hS hA hret hl
  have hown : s.vm.findClass RX5 = some m.cls := hown
  refine lv_iload_n hx hb dX5_isCell_0 rfl (lv_at hl 0 rfl) ?_
  refine lv_iconst (v := 1) hx hb dX5_isCell_1 (by decide) ?_
  refine lv_icmp_lt (tgt := 25) hx hb dX5_isCell_2 (by decide) (fun c2 => ?_) (fun c2 => ?_)
  · have hM := g_pos c2 hM
    refine lv_iconst (v := 0) hx hb dX5_isCell_25 (by decide) ?_
    obtain rfl := si1 hM
    exact hret _ _ _ _ _ dX5_isCell_26 rfl rfl hP hD hS
  · have hM := g_neg c2 hM
    refine lv_iload_n hx hb dX5_isCell_5 rfl (lv_at hl 0 rfl) ?_
    refine lv_bipush (v := 40) hx hb dX5_isCell_6 (by decide) ?_
    refine lv_icmp_gt (tgt := 25) hx hb dX5_isCell_8 (by decide) (fun c8 => ?_) (fun c8 => ?_)
    · have hM := g_pos c8 hM
      refine lv_iconst (v := 0) hx hb dX5_isCell_25 (by decide) ?_
      obtain rfl := si1 hM
      exact hret _ _ _ _ _ dX5_isCell_26 rfl rfl hP hD hS
    · have hM := g_neg c8 hM
      refine lv_iload_n hx hb dX5_isCell_11 rfl (lv_at hl 1 rfl) ?_
      refine lv_if_lt (tgt := 25) hx hb dX5_isCell_12 (by decide) (fun c12 => ?_) (fun c12 => ?_)
      · have hM := g_pos c12 hM
        refine lv_iconst (v := 0) hx hb dX5_isCell_25 (by decide) ?_
        obtain rfl := si1 hM
        exact hret _ _ _ _ _ dX5_isCell_26 rfl rfl hP hD hS
      · have hM := g_neg c12 hM
        refine lv_iload_n hx hb dX5_isCell_15 rfl (lv_at hl 1 rfl) ?_
        refine lv_bipush (v := 7) hx hb dX5_isCell_16 (by decide) ?_
        refine lv_icmp_ge (tgt := 25) hx hb dX5_isCell_18 (by decide) (fun c18 => ?_) (fun c18 => ?_)
        · have hM := g_pos c18 hM
          refine lv_iconst (v := 0) hx hb dX5_isCell_25 (by decide) ?_
          obtain rfl := si1 hM
          exact hret _ _ _ _ _ dX5_isCell_26 rfl rfl hP hD hS
        · have hM := g_neg c18 hM
          refine lv_iconst (v := 1) hx hb dX5_isCell_21 (by decide) ?_
          refine lv_goto (tgt := 26) hx hb dX5_isCell_22 (by decide) ?_
          obtain rfl := si1 hM
          exact hret _ _ _ _ _ dX5_isCell_26 rfl rfl hP hD hS

-- ===== X5_leastTime leastTime (II)I =====
abbrev r5_leastTime : Room := { frames := 1, cells := 0, slots := 0, locals := 21 }
def f5_leastTime (N : Nat) (p1 : Int32) (p2 : Int32) (v_least : Nat → Nat → Int32) (v_most : Nat → Nat → Int32) : Option Int32 :=
  ob1 (f5_isCell N p1 p2) fun r2 => if r2 = (0 : Int32) then (some (-1 : Int32)) else (gi p1 41 (gi p2 7 (some ((v_least p1.toNatClampNeg) p2.toNatClampNeg))))
set_option maxHeartbeats 4000000 in
set_option maxRecDepth 100000 in
theorem c5_leastTime (l : Launch) (D : va_G) (cy : Nat → ClassId) (N : Nat) (rh0_least : Nat → Nat) (rh0_most : Nat → Nat) (h0 h0_least h0_most : Nat) (oh0_1 : Value) (p1 : Int32) (p2 : Int32) (v_least : Nat → Nat → Int32) (v_most : Nat → Nat → Int32) (r : Int32) (hM : f5_leastTime N p1 p2 v_least v_most = some r) (sz : Nat) : CTi l yX5_leastTime wsX5_leastTime r5_leastTime [.ref h0, .int p1, .int p2] D cy sz ([(h0, .inr (5, [.ref h0_least, oh0_1])), (h0_least, .inl (cy 5, 41, gO 41 rh0_least)), (h0_most, .inl (cy 5, 41, gO 41 rh0_most))] ++ (gW rh0_least 41 7 (cy 2) v_least ++ gW rh0_most 41 7 (cy 2) v_most)) ([(h0, .inr (5, [.ref h0_least, oh0_1])), (h0_least, .inl (cy 5, 41, gO 41 rh0_least)), (h0_most, .inl (cy 5, 41, gO 41 rh0_most))] ++ (gW rh0_least 41 7 (cy 2) v_least ++ gW rh0_most 41 7 (cy 2) v_most)) r := by
  unfold f5_leastTime at hM
  refine ct_oi (cc := cX5_leastTime) (maxL := 3) (ty := .int) (by decide +kernel) rfl (Nat.le_of_ble_eq_true rfl) (lv0 := [(0, .ref h0), (1, .int p1), (2, .int p2)]) rfl ?_
  intro p e s m args below meth c A Q ls hx hb hts hown hml hK hP hD hS hA hret hl
  have hown : s.vm.findClass RX5 = some m.cls := hown
  have k11 := hts (.fieldLink RX5 11 "CaveYears$Spans" "least" "[[I") (List.mem_of_getElem? (i := 1) rfl)
  have iX5 := (fun w h => (List.mem_cons_of_mem _ (List.mem_append_right _ h)) : ∀ w ∈ wsX50, w ∈ wsX5_leastTime)
  refine lv_iload_n hx hb dX5_leastTime_0 rfl (lv_at hl 1 rfl) ?_
  refine lv_iload_n hx hb dX5_leastTime_1 rfl (lv_at hl 2 rfl) ?_
  obtain ⟨r2, hc2, hM⟩ := ob1_some hM
  refine cg_si (As := [.int p1, .int p2]) (rest := []) (wr := ([(h0, .inr (5, [.ref h0_least, oh0_1])), (h0_least, .inl (cy 5, 41, gO 41 rh0_least)), (h0_most, .inl (cy 5, 41, gO 41 rh0_most))] ++ (gW rh0_least 41 7 (cy 2) v_least ++ gW rh0_most 41 7 (cy 2) v_most))) (ws2 := ([(h0, .inr (5, [.ref h0_least, oh0_1])), (h0_least, .inl (cy 5, 41, gO 41 rh0_least)), (h0_most, .inl (cy 5, 41, gO 41 rh0_most))] ++ (gW rh0_least 41 7 (cy 2) v_least ++ gW rh0_most 41 7 (cy 2) v_most))) hx hb hml hown hts (c5_isCell l D cy N p1 p2 r2 hc2) (va_cwS 2 hts gX5_leastTime_X5_isCell rfl rfl rfl (by decide +kernel) ⟨Nat.le_of_ble_eq_true rfl, Nat.le_of_ble_eq_true rfl⟩) hK hP hD hS hA (pm_Q (pm_x [0, 1, 2] rfl rfl)) (pm_Q (pm_x [0, 1, 2] rfl rfl)).symm rfl rfl hl.1 (Nat.le_of_ble_eq_true rfl) dX5_leastTime_2 ⟨Nat.zero_le _, Nat.zero_le _⟩ (fun H locs hP hD hS => ?_)
  refine lv_if_eq (tgt := 19) hx hb dX5_leastTime_5 (by decide) (fun c5 => ?_) (fun c5 => ?_)
  · have hM := g_pos c5 hM
    refine lv_iconst (v := -1) hx hb dX5_leastTime_19 (by decide) ?_
    obtain rfl := si1 hM
    exact hret _ _ _ _ _ dX5_leastTime_20 rfl rfl hP hD hS
  · have hM := g_neg c5 hM
    refine lv_aload_n hx hb dX5_leastTime_8 rfl (lv_at hl 0 rfl) ?_
    refine va_get (D := D) (ci := 5) (v := .ref h0_least) (C := RX5) (T := TX5) (N := 2) hx hb hts iX5 hown hK hP 0 rfl rfl 0 (by decide) k11 (fun _ h9 => h9) rfl dX5_leastTime_9 ?_
    refine lv_iload_n hx hb dX5_leastTime_12 rfl (lv_at hl 1 rfl) ?_
    obtain ⟨h13, hM⟩ := gi_some hM
    refine wv_aald hx hb hK hP 1 5 rfl rfl h13 dX5_leastTime_13 ?_
    refine lv_iload_n hx hb dX5_leastTime_14 rfl (lv_at hl 2 rfl) ?_
    obtain ⟨h15, hM⟩ := gi_some hM
    refine wv_iald hx hb hK hP 2 (gW_rowA h13) rfl h15 dX5_leastTime_15 ?_
    refine lv_goto (tgt := 20) hx hb dX5_leastTime_16 (by decide) ?_
    obtain rfl := si1 hM
    exact hret _ _ _ _ _ dX5_leastTime_20 rfl rfl hP hD hS

-- ===== X5_mostTime mostTime (II)I =====
abbrev r5_mostTime : Room := { frames := 1, cells := 0, slots := 0, locals := 21 }
def f5_mostTime (N : Nat) (p1 : Int32) (p2 : Int32) (v_least : Nat → Nat → Int32) (v_most : Nat → Nat → Int32) : Option Int32 :=
  ob1 (f5_isCell N p1 p2) fun r2 => if r2 = (0 : Int32) then (some (-1 : Int32)) else (gi p1 41 (gi p2 7 (some ((v_most p1.toNatClampNeg) p2.toNatClampNeg))))
set_option maxHeartbeats 4000000 in
set_option maxRecDepth 100000 in
theorem c5_mostTime (l : Launch) (D : va_G) (cy : Nat → ClassId) (N : Nat) (rh0_least : Nat → Nat) (rh0_most : Nat → Nat) (h0 h0_least h0_most : Nat) (oh0_0 : Value) (p1 : Int32) (p2 : Int32) (v_least : Nat → Nat → Int32) (v_most : Nat → Nat → Int32) (r : Int32) (hM : f5_mostTime N p1 p2 v_least v_most = some r) (sz : Nat) : CTi l yX5_mostTime wsX5_mostTime r5_mostTime [.ref h0, .int p1, .int p2] D cy sz ([(h0, .inr (5, [oh0_0, .ref h0_most])), (h0_least, .inl (cy 5, 41, gO 41 rh0_least)), (h0_most, .inl (cy 5, 41, gO 41 rh0_most))] ++ (gW rh0_least 41 7 (cy 2) v_least ++ gW rh0_most 41 7 (cy 2) v_most)) ([(h0, .inr (5, [oh0_0, .ref h0_most])), (h0_least, .inl (cy 5, 41, gO 41 rh0_least)), (h0_most, .inl (cy 5, 41, gO 41 rh0_most))] ++ (gW rh0_least 41 7 (cy 2) v_least ++ gW rh0_most 41 7 (cy 2) v_most)) r := by
  unfold f5_mostTime at hM
  refine ct_oi (cc := cX5_mostTime) (maxL := 3) (ty := .int) (by decide +kernel) rfl (Nat.le_of_ble_eq_true rfl) (lv0 := [(0, .ref h0), (1, .int p1), (2, .int p2)]) rfl ?_
  intro p e s m args below meth c A Q ls hx hb hts hown hml hK hP hD hS hA hret hl
  have hown : s.vm.findClass RX5 = some m.cls := hown
  have k16 := hts (.fieldLink RX5 16 "CaveYears$Spans" "most" "[[I") (List.mem_of_getElem? (i := 1) rfl)
  have iX5 := (fun w h => (List.mem_cons_of_mem _ (List.mem_append_right _ h)) : ∀ w ∈ wsX50, w ∈ wsX5_mostTime)
  refine lv_iload_n hx hb dX5_mostTime_0 rfl (lv_at hl 1 rfl) ?_
  refine lv_iload_n hx hb dX5_mostTime_1 rfl (lv_at hl 2 rfl) ?_
  obtain ⟨r2, hc2, hM⟩ := ob1_some hM
  refine cg_si (As := [.int p1, .int p2]) (rest := []) (wr := ([(h0, .inr (5, [oh0_0, .ref h0_most])), (h0_least, .inl (cy 5, 41, gO 41 rh0_least)), (h0_most, .inl (cy 5, 41, gO 41 rh0_most))] ++ (gW rh0_least 41 7 (cy 2) v_least ++ gW rh0_most 41 7 (cy 2) v_most))) (ws2 := ([(h0, .inr (5, [oh0_0, .ref h0_most])), (h0_least, .inl (cy 5, 41, gO 41 rh0_least)), (h0_most, .inl (cy 5, 41, gO 41 rh0_most))] ++ (gW rh0_least 41 7 (cy 2) v_least ++ gW rh0_most 41 7 (cy 2) v_most))) hx hb hml hown hts (c5_isCell l D cy N p1 p2 r2 hc2) (va_cwS 2 hts gX5_mostTime_X5_isCell rfl rfl rfl (by decide +kernel) ⟨Nat.le_of_ble_eq_true rfl, Nat.le_of_ble_eq_true rfl⟩) hK hP hD hS hA (pm_Q (pm_x [0, 1, 2] rfl rfl)) (pm_Q (pm_x [0, 1, 2] rfl rfl)).symm rfl rfl hl.1 (Nat.le_of_ble_eq_true rfl) dX5_mostTime_2 ⟨Nat.zero_le _, Nat.zero_le _⟩ (fun H locs hP hD hS => ?_)
  refine lv_if_eq (tgt := 19) hx hb dX5_mostTime_5 (by decide) (fun c5 => ?_) (fun c5 => ?_)
  · have hM := g_pos c5 hM
    refine lv_iconst (v := -1) hx hb dX5_mostTime_19 (by decide) ?_
    obtain rfl := si1 hM
    exact hret _ _ _ _ _ dX5_mostTime_20 rfl rfl hP hD hS
  · have hM := g_neg c5 hM
    refine lv_aload_n hx hb dX5_mostTime_8 rfl (lv_at hl 0 rfl) ?_
    refine va_get (D := D) (ci := 5) (v := .ref h0_most) (C := RX5) (T := TX5) (N := 2) hx hb hts iX5 hown hK hP 0 rfl rfl 1 (by decide) k16 (fun _ h9 => h9) rfl dX5_mostTime_9 ?_
    refine lv_iload_n hx hb dX5_mostTime_12 rfl (lv_at hl 1 rfl) ?_
    obtain ⟨h13, hM⟩ := gi_some hM
    refine wv_aald hx hb hK hP 2 5 rfl rfl h13 dX5_mostTime_13 ?_
    refine lv_iload_n hx hb dX5_mostTime_14 rfl (lv_at hl 2 rfl) ?_
    obtain ⟨h15, hM⟩ := gi_some hM
    refine wv_iald hx hb hK hP 2 (gW_rowB h13) rfl h15 dX5_mostTime_15 ?_
    refine lv_goto (tgt := 20) hx hb dX5_mostTime_16 (by decide) ?_
    obtain rfl := si1 hM
    exact hret _ _ _ _ _ dX5_mostTime_20 rfl rfl hP hD hS

-- ===== X5_layCell layCell (LCaveYears$Cave;III)V =====
abbrev r5_layCell : Room := { frames := 3, cells := 0, slots := 0, locals := 65 }
def f5_layCell_L25 (N : Nat) (p3 : Int32) (p4 : Int32) (v_least : Nat → Nat → Int32) (v_most : Nat → Nat → Int32) (w1_parts : Int32) (w1_near : Nat → Int32) : Nat → Int32 → Int32 → Int32 → Option (Int32 × Int32)
  | 0, _, _, _ => none
  | n + 1, x5_25, x6_25, x7_25 => if (7 : Int32) ≤ x7_25 then (some (x5_25, x6_25)) else (if p3 ≤ (1 : Int32) then ((f5_layCell_L25 N p3 p4 v_least v_most w1_parts w1_near n) x5_25 x6_25 (x7_25 + (1 : Int32))) else (ob1 (f0_mayFollow N p4 x7_25 w1_parts w1_near) fun r42 => if r42 = (0 : Int32) then ((f5_layCell_L25 N p3 p4 v_least v_most w1_parts w1_near n) x5_25 x6_25 (x7_25 + (1 : Int32))) else (ob1 (f5_mostTime N (p3 - (1 : Int32)) x7_25 v_least v_most) fun r54 => if r54 = (-1 : Int32) then ((f5_layCell_L25 N p3 p4 v_least v_most w1_parts w1_near n) x5_25 x6_25 (x7_25 + (1 : Int32))) else (if x5_25 = (-1 : Int32) then (ob1 (f5_leastTime N (p3 - (1 : Int32)) x7_25 v_least v_most) fun r73 => ob1 (f5_mostTime N (p3 - (1 : Int32)) x7_25 v_least v_most) fun r103 => (f5_layCell_L25 N p3 p4 v_least v_most w1_parts w1_near n) r73 (if x6_25 < r103 then r103 else x6_25) (x7_25 + (1 : Int32))) else (ob1 (f5_leastTime N (p3 - (1 : Int32)) x7_25 v_least v_most) fun r87 => ob1 (f5_mostTime N (p3 - (1 : Int32)) x7_25 v_least v_most) fun r103 => (f5_layCell_L25 N p3 p4 v_least v_most w1_parts w1_near n) (if r87 < x5_25 then r87 else x5_25) (if x6_25 < r103 then r103 else x6_25) (x7_25 + (1 : Int32)))))))
def f5_layCell_J144 (N : Nat) (p3 : Int32) (p4 : Int32) (v_least : Nat → Nat → Int32) (v_most : Nat → Nat → Int32) (w1_parts : Int32) (w1_rate : Nat → Int32) (e6_25 : Int32) (s0_144 : Int32) (s1_144 : Int32) : Option ((Nat → Nat → Int32) × (Nat → Nat → Int32)) :=
  gi s1_144 7 (gi p3 41 (if e6_25 = (-1 : Int32) then (gi p4 7 (some ((upM v_least p3.toNatClampNeg (upd (v_least p3.toNatClampNeg) s1_144.toNatClampNeg s0_144)), (upM v_most p3.toNatClampNeg (upd (v_most p3.toNatClampNeg) p4.toNatClampNeg (-1 : Int32)))))) else (ob1 (f0_rateOf N p4 w1_parts w1_rate) fun r168 => gi p4 7 (some ((upM v_least p3.toNatClampNeg (upd (v_least p3.toNatClampNeg) s1_144.toNatClampNeg s0_144)), (upM v_most p3.toNatClampNeg (upd (v_most p3.toNatClampNeg) p4.toNatClampNeg (e6_25 + r168))))))))
def f5_layCell_J16 (N : Nat) (p3 : Int32) (p4 : Int32) (v_least : Nat → Nat → Int32) (v_most : Nat → Nat → Int32) (w1_parts : Int32) (w1_rate : Nat → Int32) (w1_near : Nat → Int32) (s0_16 : Int32) : Option ((Nat → Nat → Int32) × (Nat → Nat → Int32)) :=
  ob2 (f5_layCell_L25 N p3 p4 v_least v_most w1_parts w1_near N s0_16 s0_16 (0 : Int32)) fun e5_25 e6_25 => gi p3 41 (if e5_25 = (-1 : Int32) then (f5_layCell_J144 N p3 p4 v_least v_most w1_parts w1_rate e6_25 (-1 : Int32) p4) else (ob1 (f0_rateOf N p4 w1_parts w1_rate) fun r140 => f5_layCell_J144 N p3 p4 v_least v_most w1_parts w1_rate e6_25 (e5_25 + r140) p4))
def f5_layCell (N : Nat) (p2 : Int32) (p3 : Int32) (p4 : Int32) (v_least : Nat → Nat → Int32) (v_most : Nat → Nat → Int32) (w1_parts : Int32) (w1_rate : Nat → Int32) (w1_near : Nat → Int32) : Option ((Nat → Nat → Int32) × (Nat → Nat → Int32)) :=
  if p3 = (1 : Int32) then (if p4 = p2 then (f5_layCell_J16 N p3 p4 v_least v_most w1_parts w1_rate w1_near (0 : Int32)) else (f5_layCell_J16 N p3 p4 v_least v_most w1_parts w1_rate w1_near (-1 : Int32))) else (f5_layCell_J16 N p3 p4 v_least v_most w1_parts w1_rate w1_near (-1 : Int32))
set_option maxHeartbeats 4000000 in
set_option maxRecDepth 100000 in
theorem c5_layCell (l : Launch) (D : va_G) (cy : Nat → ClassId) (N : Nat) (rh0_least : Nat → Nat) (rh0_most : Nat → Nat) (h0 h0_least h0_most g1 g1_rate g1_near : Nat) (og1_1 og1_2 og1_3 og1_4 og1_5 og1_6 og1_9 og1_10 og1_11 og1_12 : Value) (p2 : Int32) (p3 : Int32) (p4 : Int32) (v_least : Nat → Nat → Int32) (v_most : Nat → Nat → Int32) (w1_parts : Int32) (w1_rate : Nat → Int32) (w1_near : Nat → Int32) (nv_least : Nat → Nat → Int32) (nv_most : Nat → Nat → Int32) (hM : f5_layCell N p2 p3 p4 v_least v_most w1_parts w1_rate w1_near = some (nv_least, nv_most)) (sz : Nat) : CTv l yX5_layCell wsX5_layCell r5_layCell [.ref h0, .ref g1, .int p2, .int p3, .int p4] D cy sz ([(h0, .inr (5, [.ref h0_least, .ref h0_most])), (h0_least, .inl (cy 5, 41, gO 41 rh0_least)), (h0_most, .inl (cy 5, 41, gO 41 rh0_most)), (g1, .inr (0, [.int w1_parts, og1_1, og1_2, og1_3, og1_4, og1_5, og1_6, .ref g1_rate, .ref g1_near, og1_9, og1_10, og1_11, og1_12])), (g1_rate, .inl (cy 2, 7, .inl w1_rate)), (g1_near, .inl (cy 2, 7, .inl w1_near))] ++ (gW rh0_least 41 7 (cy 2) v_least ++ gW rh0_most 41 7 (cy 2) v_most)) ([(h0, .inr (5, [.ref h0_least, .ref h0_most])), (h0_least, .inl (cy 5, 41, gO 41 rh0_least)), (h0_most, .inl (cy 5, 41, gO 41 rh0_most)), (g1, .inr (0, [.int w1_parts, og1_1, og1_2, og1_3, og1_4, og1_5, og1_6, .ref g1_rate, .ref g1_near, og1_9, og1_10, og1_11, og1_12])), (g1_rate, .inl (cy 2, 7, .inl w1_rate)), (g1_near, .inl (cy 2, 7, .inl w1_near))] ++ (gW rh0_least 41 7 (cy 2) nv_least ++ gW rh0_most 41 7 (cy 2) nv_most)) := by
  unfold f5_layCell at hM
  refine ct_ov (cc := cX5_layCell) (maxL := 8)  (by decide +kernel) rfl (Nat.le_of_ble_eq_true rfl) (lv0 := [(0, .ref h0), (1, .ref g1), (2, .int p2), (3, .int p3), (4, .int p4)]) rfl ?_
  intro p e s m args below meth c A Q ls hx hb hts hown hml hK hP hD hS hA hret hl
  have hown : s.vm.findClass RX5 = some m.cls := hown
  have k60 := hts (.methodLink RX5 60 Lib.Math.min.name) (List.mem_of_getElem? (i := 1) rfl)
  have ks60 := hts (.static Lib.Math.min.name) (List.mem_of_getElem? (i := 2) rfl)
  have kmath := hts (.initialized "java/lang/Math") (List.mem_of_getElem? (i := 3) rfl)
  have kc60 := hts (.code Lib.Math.min.name Lib.Math.min.code 2 (some .int)) (List.mem_of_getElem? (i := 4) rfl)
  have k31 := hts (.methodLink RX5 31 Lib.Math.max.name) (List.mem_of_getElem? (i := 5) rfl)
  have ks31 := hts (.static Lib.Math.max.name) (List.mem_of_getElem? (i := 6) rfl)
  have kc31 := hts (.code Lib.Math.max.name Lib.Math.max.code 2 (some .int)) (List.mem_of_getElem? (i := 7) rfl)
  have k11 := hts (.fieldLink RX5 11 "CaveYears$Spans" "least" "[[I") (List.mem_of_getElem? (i := 8) rfl)
  have iX5 := (fun w h => (List.mem_cons_of_mem _ (List.mem_append_left _ (List.mem_append_right _ h))) : ∀ w ∈ wsX50, w ∈ wsX5_layCell)
  have k16 := hts (.fieldLink RX5 16 "CaveYears$Spans" "most" "[[I") (List.mem_of_getElem? (i := 9) rfl)
  refine lv_iload_n hx hb dX5_layCell_0 rfl (lv_at hl 3 rfl) ?_
  refine lv_iconst (v := 1) hx hb dX5_layCell_1 (by decide) ?_
  have K16 : ∀ (s0_16 : Int32) (H : Heap) (locs : List Loc) (ls : Array Slot), f5_layCell_J16 N p3 p4 v_least v_most w1_parts w1_rate w1_near s0_16 = some (nv_least, nv_most) → va_P D vwCl ([(h0, .inr (5, [.ref h0_least, .ref h0_most])), (h0_least, .inl (cy 5, 41, gO 41 rh0_least)), (h0_most, .inl (cy 5, 41, gO 41 rh0_most)), (g1, .inr (0, [.int w1_parts, og1_1, og1_2, og1_3, og1_4, og1_5, og1_6, .ref g1_rate, .ref g1_near, og1_9, og1_10, og1_11, og1_12])), (g1_rate, .inl (cy 2, 7, .inl w1_rate)), (g1_near, .inl (cy 2, 7, .inl w1_near))] ++ (gW rh0_least 41 7 (cy 2) v_least ++ gW rh0_most 41 7 (cy 2) v_most)) H → va_D A ([(h0, .inr (5, [.ref h0_least, .ref h0_most])), (h0_least, .inl (cy 5, 41, gO 41 rh0_least)), (h0_most, .inl (cy 5, 41, gO 41 rh0_most)), (g1, .inr (0, [.int w1_parts, og1_1, og1_2, og1_3, og1_4, og1_5, og1_6, .ref g1_rate, .ref g1_near, og1_9, og1_10, og1_11, og1_12])), (g1_rate, .inl (cy 2, 7, .inl w1_rate)), (g1_near, .inl (cy 2, 7, .inl w1_near))] ++ (gW rh0_least 41 7 (cy 2) v_least ++ gW rh0_most 41 7 (cy 2) v_most)) → va_S A s.heap H locs → lv_has ls 8 [(0, .ref h0), (1, .ref g1), (3, .int p3), (4, .int p4)] → W p l e r5_layCell s m args below meth c H locs 0 0 Q (F0 m 16 ls [.int s0_16]) := by
    intro s0_16 H locs ls hM hP hD hS hl
    unfold f5_layCell_J16 at hM
    refine lv_istore (lv' := [(5, .int s0_16), (0, .ref h0), (1, .ref g1), (3, .int p3), (4, .int p4)]) hx hb dX5_layCell_16 hl (by decide) rfl (fun ls hl => ?_)
    refine lv_iload hx hb dX5_layCell_18 (lv_at hl 0 rfl) ?_
    refine lv_istore (lv' := [(6, .int s0_16), (5, .int s0_16), (0, .ref h0), (1, .ref g1), (3, .int p3), (4, .int p4)]) hx hb dX5_layCell_20 hl (by decide) rfl (fun ls hl => ?_)
    refine lv_iconst (v := 0) hx hb dX5_layCell_22 (by decide) ?_
    refine lv_istore (lv' := [(7, .int (0 : Int32)), (6, .int s0_16), (5, .int s0_16), (0, .ref h0), (1, .ref g1), (3, .int p3), (4, .int p4)]) hx hb dX5_layCell_23 hl (by decide) rfl (fun ls hl => ?_)
    have L25 : ∀ (n : Nat) (x5_25 : Int32) (x6_25 : Int32) (x7_25 : Int32) (e5_25 : Int32) (e6_25 : Int32) (H : Heap) (locs : List Loc) (ls : Array Slot), f5_layCell_L25 N p3 p4 v_least v_most w1_parts w1_near n x5_25 x6_25 x7_25 = some (e5_25, e6_25) → va_P D vwCl ([(h0, .inr (5, [.ref h0_least, .ref h0_most])), (h0_least, .inl (cy 5, 41, gO 41 rh0_least)), (h0_most, .inl (cy 5, 41, gO 41 rh0_most)), (g1, .inr (0, [.int w1_parts, og1_1, og1_2, og1_3, og1_4, og1_5, og1_6, .ref g1_rate, .ref g1_near, og1_9, og1_10, og1_11, og1_12])), (g1_rate, .inl (cy 2, 7, .inl w1_rate)), (g1_near, .inl (cy 2, 7, .inl w1_near))] ++ (gW rh0_least 41 7 (cy 2) v_least ++ gW rh0_most 41 7 (cy 2) v_most)) H → va_D A ([(h0, .inr (5, [.ref h0_least, .ref h0_most])), (h0_least, .inl (cy 5, 41, gO 41 rh0_least)), (h0_most, .inl (cy 5, 41, gO 41 rh0_most)), (g1, .inr (0, [.int w1_parts, og1_1, og1_2, og1_3, og1_4, og1_5, og1_6, .ref g1_rate, .ref g1_near, og1_9, og1_10, og1_11, og1_12])), (g1_rate, .inl (cy 2, 7, .inl w1_rate)), (g1_near, .inl (cy 2, 7, .inl w1_near))] ++ (gW rh0_least 41 7 (cy 2) v_least ++ gW rh0_most 41 7 (cy 2) v_most)) → va_S A s.heap H locs → lv_has ls 8 [(0, .ref h0), (1, .ref g1), (3, .int p3), (4, .int p4), (5, .int x5_25), (6, .int x6_25), (7, .int x7_25)] → (∀ (H : Heap) (locs : List Loc) (ls : Array Slot), va_P D vwCl ([(h0, .inr (5, [.ref h0_least, .ref h0_most])), (h0_least, .inl (cy 5, 41, gO 41 rh0_least)), (h0_most, .inl (cy 5, 41, gO 41 rh0_most)), (g1, .inr (0, [.int w1_parts, og1_1, og1_2, og1_3, og1_4, og1_5, og1_6, .ref g1_rate, .ref g1_near, og1_9, og1_10, og1_11, og1_12])), (g1_rate, .inl (cy 2, 7, .inl w1_rate)), (g1_near, .inl (cy 2, 7, .inl w1_near))] ++ (gW rh0_least 41 7 (cy 2) v_least ++ gW rh0_most 41 7 (cy 2) v_most)) H → va_D A ([(h0, .inr (5, [.ref h0_least, .ref h0_most])), (h0_least, .inl (cy 5, 41, gO 41 rh0_least)), (h0_most, .inl (cy 5, 41, gO 41 rh0_most)), (g1, .inr (0, [.int w1_parts, og1_1, og1_2, og1_3, og1_4, og1_5, og1_6, .ref g1_rate, .ref g1_near, og1_9, og1_10, og1_11, og1_12])), (g1_rate, .inl (cy 2, 7, .inl w1_rate)), (g1_near, .inl (cy 2, 7, .inl w1_near))] ++ (gW rh0_least 41 7 (cy 2) v_least ++ gW rh0_most 41 7 (cy 2) v_most)) → va_S A s.heap H locs → lv_has ls 8 [(0, .ref h0), (1, .ref g1), (3, .int p3), (4, .int p4), (5, .int e5_25), (6, .int e6_25)] → W p l e r5_layCell s m args below meth c H locs 0 0 Q (F0 m 117 ls [])) → W p l e r5_layCell s m args below meth c H locs 0 0 Q (F0 m 25 ls []) := by
      intro n
      induction n with
      | zero =>
        intro x5_25 x6_25 x7_25 e5_25 e6_25 H locs ls hM
        exact absurd hM (by simp [f5_layCell_L25])
      | succ n ih =>
        intro x5_25 x6_25 x7_25 e5_25 e6_25 H locs ls hM hP hD hS hl K
        rw [f5_layCell_L25] at hM
        refine lv_iload hx hb dX5_layCell_25 (lv_at hl 6 rfl) ?_
        refine lv_bipush (v := 7) hx hb dX5_layCell_27 (by decide) ?_
        refine lv_icmp_ge (tgt := 117) hx hb dX5_layCell_29 (by decide) (fun c29 => ?_) (fun c29 => ?_)
        · have hM := g_pos c29 hM
          obtain ⟨rfl, rfl⟩ := si2 hM
          exact K _ _ _ hP hD hS (lv_sub hl [0, 1, 2, 3, 4, 5] rfl)
        · have hM := g_neg c29 hM
          refine lv_iload_n hx hb dX5_layCell_32 rfl (lv_at hl 2 rfl) ?_
          refine lv_iconst (v := 1) hx hb dX5_layCell_33 (by decide) ?_
          refine lv_icmp_le (tgt := 111) hx hb dX5_layCell_34 (by decide) (fun c34 => ?_) (fun c34 => ?_)
          · have hM := g_pos c34 hM
            refine lv_iinc (v := x7_25 + (1 : Int32)) (lv' := [(7, .int (x7_25 + (1 : Int32))), (0, .ref h0), (1, .ref g1), (3, .int p3), (4, .int p4), (5, .int x5_25), (6, .int x6_25)]) hx hb dX5_layCell_111 hl (k := 6) rfl rfl (by decide) rfl (fun ls hl => ?_)
            refine lv_goto (tgt := 25) hx hb dX5_layCell_114 (by decide) ?_
            exact ih x5_25 x6_25 (x7_25 + (1 : Int32)) e5_25 e6_25 _ _ _ hM hP hD hS (lv_sub hl [1, 2, 3, 4, 5, 6, 0] rfl) K
          · have hM := g_neg c34 hM
            refine lv_aload_n hx hb dX5_layCell_37 rfl (lv_at hl 1 rfl) ?_
            refine lv_iload hx hb dX5_layCell_38 (lv_at hl 3 rfl) ?_
            refine lv_iload hx hb dX5_layCell_40 (lv_at hl 6 rfl) ?_
            obtain ⟨r42, hc42, hM⟩ := ob1_some hM
            refine cg_vi (As := [.int p4, .int x7_25]) (rest := []) (ci := 0) (q0 := 3) (wr := ([(h0, .inr (5, [.ref h0_least, .ref h0_most])), (h0_least, .inl (cy 5, 41, gO 41 rh0_least)), (h0_most, .inl (cy 5, 41, gO 41 rh0_most)), (g1_rate, .inl (cy 2, 7, .inl w1_rate))] ++ (gW rh0_least 41 7 (cy 2) v_least ++ gW rh0_most 41 7 (cy 2) v_most))) (ws2 := ([(h0, .inr (5, [.ref h0_least, .ref h0_most])), (h0_least, .inl (cy 5, 41, gO 41 rh0_least)), (h0_most, .inl (cy 5, 41, gO 41 rh0_most)), (g1, .inr (0, [.int w1_parts, og1_1, og1_2, og1_3, og1_4, og1_5, og1_6, .ref g1_rate, .ref g1_near, og1_9, og1_10, og1_11, og1_12])), (g1_rate, .inl (cy 2, 7, .inl w1_rate)), (g1_near, .inl (cy 2, 7, .inl w1_near))] ++ (gW rh0_least 41 7 (cy 2) v_least ++ gW rh0_most 41 7 (cy 2) v_most))) hx hb hml hown hts (c0_mayFollow l D cy N g1 g1_near og1_1 og1_2 og1_3 og1_4 og1_5 og1_6 (.ref g1_rate) og1_9 og1_10 og1_11 og1_12 p4 x7_25 w1_parts w1_near r42 hc42) (cwV 2 hts gX5_layCell_X0_mayFollow rfl rfl rfl (by decide +kernel) ⟨Nat.le_of_ble_eq_true rfl, Nat.le_of_ble_eq_true rfl⟩) hK hP hD hS hA rfl rfl (pm_Q (pm_x [0, 1, 2, 4, 3, 5] rfl rfl)) (pm_Q (pm_x [0, 1, 2, 4, 3, 5] rfl rfl)).symm rfl rfl hl.1 (Nat.le_of_ble_eq_true rfl) dX5_layCell_42 ⟨Nat.zero_le _, Nat.zero_le _⟩ (fun H locs hP hD hS => ?_)
            refine lv_if_eq (tgt := 111) hx hb dX5_layCell_45 (by decide) (fun c45 => ?_) (fun c45 => ?_)
            · have hM := g_pos c45 hM
              refine lv_iinc (v := x7_25 + (1 : Int32)) (lv' := [(7, .int (x7_25 + (1 : Int32))), (0, .ref h0), (1, .ref g1), (3, .int p3), (4, .int p4), (5, .int x5_25), (6, .int x6_25)]) hx hb dX5_layCell_111 hl (k := 6) rfl rfl (by decide) rfl (fun ls hl => ?_)
              refine lv_goto (tgt := 25) hx hb dX5_layCell_114 (by decide) ?_
              exact ih x5_25 x6_25 (x7_25 + (1 : Int32)) e5_25 e6_25 _ _ _ hM hP hD hS (lv_sub hl [1, 2, 3, 4, 5, 6, 0] rfl) K
            · have hM := g_neg c45 hM
              refine lv_aload_n hx hb dX5_layCell_48 rfl (lv_at hl 0 rfl) ?_
              refine lv_iload_n hx hb dX5_layCell_49 rfl (lv_at hl 2 rfl) ?_
              refine lv_iconst (v := 1) hx hb dX5_layCell_50 (by decide) ?_
              refine lv_isub hx hb dX5_layCell_51 ?_
              refine lv_iload hx hb dX5_layCell_52 (lv_at hl 6 rfl) ?_
              obtain ⟨r54, hc54, hM⟩ := ob1_some hM
              refine cg_vi (As := [.int (p3 - (1 : Int32)), .int x7_25]) (rest := []) (ci := 5) (q0 := 0) (wr := [(g1, .inr (0, [.int w1_parts, og1_1, og1_2, og1_3, og1_4, og1_5, og1_6, .ref g1_rate, .ref g1_near, og1_9, og1_10, og1_11, og1_12])), (g1_rate, .inl (cy 2, 7, .inl w1_rate)), (g1_near, .inl (cy 2, 7, .inl w1_near))]) (ws2 := ([(h0, .inr (5, [.ref h0_least, .ref h0_most])), (h0_least, .inl (cy 5, 41, gO 41 rh0_least)), (h0_most, .inl (cy 5, 41, gO 41 rh0_most)), (g1, .inr (0, [.int w1_parts, og1_1, og1_2, og1_3, og1_4, og1_5, og1_6, .ref g1_rate, .ref g1_near, og1_9, og1_10, og1_11, og1_12])), (g1_rate, .inl (cy 2, 7, .inl w1_rate)), (g1_near, .inl (cy 2, 7, .inl w1_near))] ++ (gW rh0_least 41 7 (cy 2) v_least ++ gW rh0_most 41 7 (cy 2) v_most))) hx hb hml hown hts (c5_mostTime l D cy N rh0_least rh0_most h0 h0_least h0_most (.ref h0_least) (p3 - (1 : Int32)) x7_25 v_least v_most r54 hc54) (cwV 2 hts gX5_layCell_X5_mostTime rfl rfl rfl (by decide +kernel) ⟨Nat.le_of_ble_eq_true rfl, Nat.le_of_ble_eq_true rfl⟩) hK hP hD hS hA rfl rfl (pm_P (pm_x [3, 4, 5, 0, 1, 2] rfl rfl)) (pm_P (pm_x [3, 4, 5, 0, 1, 2] rfl rfl)).symm rfl rfl hl.1 (Nat.le_of_ble_eq_true rfl) dX5_layCell_54 ⟨Nat.zero_le _, Nat.zero_le _⟩ (fun H locs hP hD hS => ?_)
              refine lv_iconst (v := -1) hx hb dX5_layCell_57 (by decide) ?_
              refine lv_icmp_eq (tgt := 111) hx hb dX5_layCell_58 (by decide) (fun c58 => ?_) (fun c58 => ?_)
              · have hM := g_pos c58 hM
                refine lv_iinc (v := x7_25 + (1 : Int32)) (lv' := [(7, .int (x7_25 + (1 : Int32))), (0, .ref h0), (1, .ref g1), (3, .int p3), (4, .int p4), (5, .int x5_25), (6, .int x6_25)]) hx hb dX5_layCell_111 hl (k := 6) rfl rfl (by decide) rfl (fun ls hl => ?_)
                refine lv_goto (tgt := 25) hx hb dX5_layCell_114 (by decide) ?_
                exact ih x5_25 x6_25 (x7_25 + (1 : Int32)) e5_25 e6_25 _ _ _ hM hP hD hS (lv_sub hl [1, 2, 3, 4, 5, 6, 0] rfl) K
              · have hM := g_neg c58 hM
                refine lv_iload hx hb dX5_layCell_61 (lv_at hl 4 rfl) ?_
                refine lv_iconst (v := -1) hx hb dX5_layCell_63 (by decide) ?_
                refine lv_icmp_ne (tgt := 79) hx hb dX5_layCell_64 (by decide) (fun c64 => ?_) (fun c64 => ?_)
                · have hM := g_neg c64 hM
                  refine lv_iload hx hb dX5_layCell_79 (lv_at hl 4 rfl) ?_
                  refine lv_aload_n hx hb dX5_layCell_81 rfl (lv_at hl 0 rfl) ?_
                  refine lv_iload_n hx hb dX5_layCell_82 rfl (lv_at hl 2 rfl) ?_
                  refine lv_iconst (v := 1) hx hb dX5_layCell_83 (by decide) ?_
                  refine lv_isub hx hb dX5_layCell_84 ?_
                  refine lv_iload hx hb dX5_layCell_85 (lv_at hl 6 rfl) ?_
                  obtain ⟨r87, hc87, hM⟩ := ob1_some hM
                  refine cg_vi (As := [.int (p3 - (1 : Int32)), .int x7_25]) (rest := [.int x5_25]) (ci := 5) (q0 := 0) (wr := [(g1, .inr (0, [.int w1_parts, og1_1, og1_2, og1_3, og1_4, og1_5, og1_6, .ref g1_rate, .ref g1_near, og1_9, og1_10, og1_11, og1_12])), (g1_rate, .inl (cy 2, 7, .inl w1_rate)), (g1_near, .inl (cy 2, 7, .inl w1_near))]) (ws2 := ([(h0, .inr (5, [.ref h0_least, .ref h0_most])), (h0_least, .inl (cy 5, 41, gO 41 rh0_least)), (h0_most, .inl (cy 5, 41, gO 41 rh0_most)), (g1, .inr (0, [.int w1_parts, og1_1, og1_2, og1_3, og1_4, og1_5, og1_6, .ref g1_rate, .ref g1_near, og1_9, og1_10, og1_11, og1_12])), (g1_rate, .inl (cy 2, 7, .inl w1_rate)), (g1_near, .inl (cy 2, 7, .inl w1_near))] ++ (gW rh0_least 41 7 (cy 2) v_least ++ gW rh0_most 41 7 (cy 2) v_most))) hx hb hml hown hts (c5_leastTime l D cy N rh0_least rh0_most h0 h0_least h0_most (.ref h0_most) (p3 - (1 : Int32)) x7_25 v_least v_most r87 hc87) (cwV 2 hts gX5_layCell_X5_leastTime rfl rfl rfl (by decide +kernel) ⟨Nat.le_of_ble_eq_true rfl, Nat.le_of_ble_eq_true rfl⟩) hK hP hD hS hA rfl rfl (pm_P (pm_x [3, 4, 5, 0, 1, 2] rfl rfl)) (pm_P (pm_x [3, 4, 5, 0, 1, 2] rfl rfl)).symm rfl rfl hl.1 (Nat.le_of_ble_eq_true rfl) dX5_layCell_87 ⟨Nat.zero_le _, Nat.zero_le _⟩ (fun H locs hP hD hS => ?_)
                  refine va_mmin hx hb (hml.trans hl.1.symm) hown k60 ks60 kmath kc60 (Nat.le_of_ble_eq_true rfl) (Nat.le_of_ble_eq_true rfl) (Nat.zero_le _) (Nat.zero_le _) dX5_layCell_90 ?_
                  refine lv_istore (lv' := [(5, .int (if r87 < x5_25 then r87 else x5_25)), (0, .ref h0), (1, .ref g1), (3, .int p3), (4, .int p4), (6, .int x6_25), (7, .int x7_25)]) hx hb dX5_layCell_93 hl (by decide) rfl (fun ls hl => ?_)
                  refine lv_iload hx hb dX5_layCell_95 (lv_at hl 5 rfl) ?_
                  refine lv_aload_n hx hb dX5_layCell_97 rfl (lv_at hl 1 rfl) ?_
                  refine lv_iload_n hx hb dX5_layCell_98 rfl (lv_at hl 3 rfl) ?_
                  refine lv_iconst (v := 1) hx hb dX5_layCell_99 (by decide) ?_
                  refine lv_isub hx hb dX5_layCell_100 ?_
                  refine lv_iload hx hb dX5_layCell_101 (lv_at hl 6 rfl) ?_
                  obtain ⟨r103, hc103, hM⟩ := ob1_some hM
                  refine cg_vi (As := [.int (p3 - (1 : Int32)), .int x7_25]) (rest := [.int x6_25]) (ci := 5) (q0 := 0) (wr := [(g1, .inr (0, [.int w1_parts, og1_1, og1_2, og1_3, og1_4, og1_5, og1_6, .ref g1_rate, .ref g1_near, og1_9, og1_10, og1_11, og1_12])), (g1_rate, .inl (cy 2, 7, .inl w1_rate)), (g1_near, .inl (cy 2, 7, .inl w1_near))]) (ws2 := ([(h0, .inr (5, [.ref h0_least, .ref h0_most])), (h0_least, .inl (cy 5, 41, gO 41 rh0_least)), (h0_most, .inl (cy 5, 41, gO 41 rh0_most)), (g1, .inr (0, [.int w1_parts, og1_1, og1_2, og1_3, og1_4, og1_5, og1_6, .ref g1_rate, .ref g1_near, og1_9, og1_10, og1_11, og1_12])), (g1_rate, .inl (cy 2, 7, .inl w1_rate)), (g1_near, .inl (cy 2, 7, .inl w1_near))] ++ (gW rh0_least 41 7 (cy 2) v_least ++ gW rh0_most 41 7 (cy 2) v_most))) hx hb hml hown hts (c5_mostTime l D cy N rh0_least rh0_most h0 h0_least h0_most (.ref h0_least) (p3 - (1 : Int32)) x7_25 v_least v_most r103 hc103) (cwV 2 hts gX5_layCell_X5_mostTime rfl rfl rfl (by decide +kernel) ⟨Nat.le_of_ble_eq_true rfl, Nat.le_of_ble_eq_true rfl⟩) hK hP hD hS hA rfl rfl (pm_P (pm_x [3, 4, 5, 0, 1, 2] rfl rfl)) (pm_P (pm_x [3, 4, 5, 0, 1, 2] rfl rfl)).symm rfl rfl hl.1 (Nat.le_of_ble_eq_true rfl) dX5_layCell_103 ⟨Nat.zero_le _, Nat.zero_le _⟩ (fun H locs hP hD hS => ?_)
                  refine va_mmax hx hb (hml.trans hl.1.symm) hown k31 ks31 kmath kc31 (Nat.le_of_ble_eq_true rfl) (Nat.le_of_ble_eq_true rfl) (Nat.zero_le _) (Nat.zero_le _) dX5_layCell_106 ?_
                  refine lv_istore (lv' := [(6, .int (if x6_25 < r103 then r103 else x6_25)), (5, .int (if r87 < x5_25 then r87 else x5_25)), (0, .ref h0), (1, .ref g1), (3, .int p3), (4, .int p4), (7, .int x7_25)]) hx hb dX5_layCell_109 hl (by decide) rfl (fun ls hl => ?_)
                  refine lv_iinc (v := x7_25 + (1 : Int32)) (lv' := [(7, .int (x7_25 + (1 : Int32))), (6, .int (if x6_25 < r103 then r103 else x6_25)), (5, .int (if r87 < x5_25 then r87 else x5_25)), (0, .ref h0), (1, .ref g1), (3, .int p3), (4, .int p4)]) hx hb dX5_layCell_111 hl (k := 6) rfl rfl (by decide) rfl (fun ls hl => ?_)
                  refine lv_goto (tgt := 25) hx hb dX5_layCell_114 (by decide) ?_
                  exact ih (if r87 < x5_25 then r87 else x5_25) (if x6_25 < r103 then r103 else x6_25) (x7_25 + (1 : Int32)) e5_25 e6_25 _ _ _ hM hP hD hS (lv_sub hl [3, 4, 5, 6, 2, 1, 0] rfl) K
                · have hM := g_pos c64 hM
                  refine lv_aload_n hx hb dX5_layCell_67 rfl (lv_at hl 0 rfl) ?_
                  refine lv_iload_n hx hb dX5_layCell_68 rfl (lv_at hl 2 rfl) ?_
                  refine lv_iconst (v := 1) hx hb dX5_layCell_69 (by decide) ?_
                  refine lv_isub hx hb dX5_layCell_70 ?_
                  refine lv_iload hx hb dX5_layCell_71 (lv_at hl 6 rfl) ?_
                  obtain ⟨r73, hc73, hM⟩ := ob1_some hM
                  refine cg_vi (As := [.int (p3 - (1 : Int32)), .int x7_25]) (rest := []) (ci := 5) (q0 := 0) (wr := [(g1, .inr (0, [.int w1_parts, og1_1, og1_2, og1_3, og1_4, og1_5, og1_6, .ref g1_rate, .ref g1_near, og1_9, og1_10, og1_11, og1_12])), (g1_rate, .inl (cy 2, 7, .inl w1_rate)), (g1_near, .inl (cy 2, 7, .inl w1_near))]) (ws2 := ([(h0, .inr (5, [.ref h0_least, .ref h0_most])), (h0_least, .inl (cy 5, 41, gO 41 rh0_least)), (h0_most, .inl (cy 5, 41, gO 41 rh0_most)), (g1, .inr (0, [.int w1_parts, og1_1, og1_2, og1_3, og1_4, og1_5, og1_6, .ref g1_rate, .ref g1_near, og1_9, og1_10, og1_11, og1_12])), (g1_rate, .inl (cy 2, 7, .inl w1_rate)), (g1_near, .inl (cy 2, 7, .inl w1_near))] ++ (gW rh0_least 41 7 (cy 2) v_least ++ gW rh0_most 41 7 (cy 2) v_most))) hx hb hml hown hts (c5_leastTime l D cy N rh0_least rh0_most h0 h0_least h0_most (.ref h0_most) (p3 - (1 : Int32)) x7_25 v_least v_most r73 hc73) (cwV 2 hts gX5_layCell_X5_leastTime rfl rfl rfl (by decide +kernel) ⟨Nat.le_of_ble_eq_true rfl, Nat.le_of_ble_eq_true rfl⟩) hK hP hD hS hA rfl rfl (pm_P (pm_x [3, 4, 5, 0, 1, 2] rfl rfl)) (pm_P (pm_x [3, 4, 5, 0, 1, 2] rfl rfl)).symm rfl rfl hl.1 (Nat.le_of_ble_eq_true rfl) dX5_layCell_73 ⟨Nat.zero_le _, Nat.zero_le _⟩ (fun H locs hP hD hS => ?_)
                  refine lv_goto (tgt := 93) hx hb dX5_layCell_76 (by decide) ?_
                  refine lv_istore (lv' := [(5, .int r73), (0, .ref h0), (1, .ref g1), (3, .int p3), (4, .int p4), (6, .int x6_25), (7, .int x7_25)]) hx hb dX5_layCell_93 hl (by decide) rfl (fun ls hl => ?_)
                  refine lv_iload hx hb dX5_layCell_95 (lv_at hl 5 rfl) ?_
                  refine lv_aload_n hx hb dX5_layCell_97 rfl (lv_at hl 1 rfl) ?_
                  refine lv_iload_n hx hb dX5_layCell_98 rfl (lv_at hl 3 rfl) ?_
                  refine lv_iconst (v := 1) hx hb dX5_layCell_99 (by decide) ?_
                  refine lv_isub hx hb dX5_layCell_100 ?_
                  refine lv_iload hx hb dX5_layCell_101 (lv_at hl 6 rfl) ?_
                  obtain ⟨r103, hc103, hM⟩ := ob1_some hM
                  refine cg_vi (As := [.int (p3 - (1 : Int32)), .int x7_25]) (rest := [.int x6_25]) (ci := 5) (q0 := 0) (wr := [(g1, .inr (0, [.int w1_parts, og1_1, og1_2, og1_3, og1_4, og1_5, og1_6, .ref g1_rate, .ref g1_near, og1_9, og1_10, og1_11, og1_12])), (g1_rate, .inl (cy 2, 7, .inl w1_rate)), (g1_near, .inl (cy 2, 7, .inl w1_near))]) (ws2 := ([(h0, .inr (5, [.ref h0_least, .ref h0_most])), (h0_least, .inl (cy 5, 41, gO 41 rh0_least)), (h0_most, .inl (cy 5, 41, gO 41 rh0_most)), (g1, .inr (0, [.int w1_parts, og1_1, og1_2, og1_3, og1_4, og1_5, og1_6, .ref g1_rate, .ref g1_near, og1_9, og1_10, og1_11, og1_12])), (g1_rate, .inl (cy 2, 7, .inl w1_rate)), (g1_near, .inl (cy 2, 7, .inl w1_near))] ++ (gW rh0_least 41 7 (cy 2) v_least ++ gW rh0_most 41 7 (cy 2) v_most))) hx hb hml hown hts (c5_mostTime l D cy N rh0_least rh0_most h0 h0_least h0_most (.ref h0_least) (p3 - (1 : Int32)) x7_25 v_least v_most r103 hc103) (cwV 2 hts gX5_layCell_X5_mostTime rfl rfl rfl (by decide +kernel) ⟨Nat.le_of_ble_eq_true rfl, Nat.le_of_ble_eq_true rfl⟩) hK hP hD hS hA rfl rfl (pm_P (pm_x [3, 4, 5, 0, 1, 2] rfl rfl)) (pm_P (pm_x [3, 4, 5, 0, 1, 2] rfl rfl)).symm rfl rfl hl.1 (Nat.le_of_ble_eq_true rfl) dX5_layCell_103 ⟨Nat.zero_le _, Nat.zero_le _⟩ (fun H locs hP hD hS => ?_)
                  refine va_mmax hx hb (hml.trans hl.1.symm) hown k31 ks31 kmath kc31 (Nat.le_of_ble_eq_true rfl) (Nat.le_of_ble_eq_true rfl) (Nat.zero_le _) (Nat.zero_le _) dX5_layCell_106 ?_
                  refine lv_istore (lv' := [(6, .int (if x6_25 < r103 then r103 else x6_25)), (5, .int r73), (0, .ref h0), (1, .ref g1), (3, .int p3), (4, .int p4), (7, .int x7_25)]) hx hb dX5_layCell_109 hl (by decide) rfl (fun ls hl => ?_)
                  refine lv_iinc (v := x7_25 + (1 : Int32)) (lv' := [(7, .int (x7_25 + (1 : Int32))), (6, .int (if x6_25 < r103 then r103 else x6_25)), (5, .int r73), (0, .ref h0), (1, .ref g1), (3, .int p3), (4, .int p4)]) hx hb dX5_layCell_111 hl (k := 6) rfl rfl (by decide) rfl (fun ls hl => ?_)
                  refine lv_goto (tgt := 25) hx hb dX5_layCell_114 (by decide) ?_
                  exact ih r73 (if x6_25 < r103 then r103 else x6_25) (x7_25 + (1 : Int32)) e5_25 e6_25 _ _ _ hM hP hD hS (lv_sub hl [3, 4, 5, 6, 2, 1, 0] rfl) K
    obtain ⟨e5_25, e6_25, hL25, hM⟩ := ob2_some hM
    refine L25 N s0_16 s0_16 (0 : Int32) e5_25 e6_25 _ _ _ hL25 hP hD hS (lv_sub hl [3, 4, 5, 6, 2, 1, 0] rfl) ?_
    intro H locs ls hP hD hS hl
    refine lv_aload_n hx hb dX5_layCell_117 rfl (lv_at hl 0 rfl) ?_
    refine va_get (D := D) (ci := 5) (v := .ref h0_least) (C := RX5) (T := TX5) (N := 2) hx hb hts iX5 hown hK hP 0 rfl rfl 0 (by decide) k11 (fun _ h9 => h9) rfl dX5_layCell_118 ?_
    refine lv_iload_n hx hb dX5_layCell_121 rfl (lv_at hl 2 rfl) ?_
    obtain ⟨h122, hM⟩ := gi_some hM
    refine wv_aald hx hb hK hP 1 5 rfl rfl h122 dX5_layCell_122 ?_
    refine lv_iload hx hb dX5_layCell_123 (lv_at hl 3 rfl) ?_
    refine lv_iload hx hb dX5_layCell_125 (lv_at hl 4 rfl) ?_
    refine lv_iconst (v := -1) hx hb dX5_layCell_127 (by decide) ?_
    have K144 : ∀ (s0_144 : Int32) (s1_144 : Int32) (H : Heap) (locs : List Loc) (ls : Array Slot), f5_layCell_J144 N p3 p4 v_least v_most w1_parts w1_rate e6_25 s0_144 s1_144 = some (nv_least, nv_most) → va_P D vwCl ([(h0, .inr (5, [.ref h0_least, .ref h0_most])), (h0_least, .inl (cy 5, 41, gO 41 rh0_least)), (h0_most, .inl (cy 5, 41, gO 41 rh0_most)), (g1, .inr (0, [.int w1_parts, og1_1, og1_2, og1_3, og1_4, og1_5, og1_6, .ref g1_rate, .ref g1_near, og1_9, og1_10, og1_11, og1_12])), (g1_rate, .inl (cy 2, 7, .inl w1_rate)), (g1_near, .inl (cy 2, 7, .inl w1_near))] ++ (gW rh0_least 41 7 (cy 2) v_least ++ gW rh0_most 41 7 (cy 2) v_most)) H → va_D A ([(h0, .inr (5, [.ref h0_least, .ref h0_most])), (h0_least, .inl (cy 5, 41, gO 41 rh0_least)), (h0_most, .inl (cy 5, 41, gO 41 rh0_most)), (g1, .inr (0, [.int w1_parts, og1_1, og1_2, og1_3, og1_4, og1_5, og1_6, .ref g1_rate, .ref g1_near, og1_9, og1_10, og1_11, og1_12])), (g1_rate, .inl (cy 2, 7, .inl w1_rate)), (g1_near, .inl (cy 2, 7, .inl w1_near))] ++ (gW rh0_least 41 7 (cy 2) v_least ++ gW rh0_most 41 7 (cy 2) v_most)) → va_S A s.heap H locs → lv_has ls 8 [(0, .ref h0), (1, .ref g1), (3, .int p3), (4, .int p4), (6, .int e6_25)] → W p l e r5_layCell s m args below meth c H locs 0 0 Q (F0 m 144 ls [.int s0_144, .int s1_144, .ref (rh0_least p3.toNatClampNeg)]) := by
      intro s0_144 s1_144 H locs ls hM hP hD hS hl
      unfold f5_layCell_J144 at hM
      obtain ⟨h144, hM⟩ := gi_some hM
      refine wv_iast hx hb hK hP hD hS 2 (gW_rowA h122) rfl h144 dX5_layCell_144 (fun H locs hP hD hS => ?_)
      have hP : va_P D vwCl ([(h0, .inr (5, [.ref h0_least, .ref h0_most])), (h0_least, .inl (cy 5, 41, gO 41 rh0_least)), (h0_most, .inl (cy 5, 41, gO 41 rh0_most)), (g1, .inr (0, [.int w1_parts, og1_1, og1_2, og1_3, og1_4, og1_5, og1_6, .ref g1_rate, .ref g1_near, og1_9, og1_10, og1_11, og1_12])), (g1_rate, .inl (cy 2, 7, .inl w1_rate)), (g1_near, .inl (cy 2, 7, .inl w1_near))] ++ (gW rh0_least 41 7 (cy 2) (upM v_least p3.toNatClampNeg (upd (v_least p3.toNatClampNeg) s1_144.toNatClampNeg s0_144)) ++ gW rh0_most 41 7 (cy 2) v_most)) H := hP
      have hD : va_D A ([(h0, .inr (5, [.ref h0_least, .ref h0_most])), (h0_least, .inl (cy 5, 41, gO 41 rh0_least)), (h0_most, .inl (cy 5, 41, gO 41 rh0_most)), (g1, .inr (0, [.int w1_parts, og1_1, og1_2, og1_3, og1_4, og1_5, og1_6, .ref g1_rate, .ref g1_near, og1_9, og1_10, og1_11, og1_12])), (g1_rate, .inl (cy 2, 7, .inl w1_rate)), (g1_near, .inl (cy 2, 7, .inl w1_near))] ++ (gW rh0_least 41 7 (cy 2) (upM v_least p3.toNatClampNeg (upd (v_least p3.toNatClampNeg) s1_144.toNatClampNeg s0_144)) ++ gW rh0_most 41 7 (cy 2) v_most)) := hD
      refine lv_aload_n hx hb dX5_layCell_145 rfl (lv_at hl 0 rfl) ?_
      refine va_get (D := D) (ci := 5) (v := .ref h0_most) (C := RX5) (T := TX5) (N := 2) hx hb hts iX5 hown hK hP 0 rfl rfl 1 (by decide) k16 (fun _ h9 => h9) rfl dX5_layCell_146 ?_
      refine lv_iload_n hx hb dX5_layCell_149 rfl (lv_at hl 2 rfl) ?_
      obtain ⟨h150, hM⟩ := gi_some hM
      refine wv_aald hx hb hK hP 2 5 rfl rfl h150 dX5_layCell_150 ?_
      refine lv_iload hx hb dX5_layCell_151 (lv_at hl 3 rfl) ?_
      refine lv_iload hx hb dX5_layCell_153 (lv_at hl 4 rfl) ?_
      refine lv_iconst (v := -1) hx hb dX5_layCell_155 (by decide) ?_
      refine lv_icmp_ne (tgt := 163) hx hb dX5_layCell_156 (by decide) (fun c156 => ?_) (fun c156 => ?_)
      · have hM := g_neg c156 hM
        refine lv_iload hx hb dX5_layCell_163 (lv_at hl 4 rfl) ?_
        refine lv_aload_n hx hb dX5_layCell_165 rfl (lv_at hl 1 rfl) ?_
        refine lv_iload hx hb dX5_layCell_166 (lv_at hl 3 rfl) ?_
        obtain ⟨r168, hc168, hM⟩ := ob1_some hM
        refine cg_vi (As := [.int p4]) (rest := [.int e6_25, .int p4, .ref (rh0_most p3.toNatClampNeg)]) (ci := 0) (q0 := 3) (wr := ([(h0, .inr (5, [.ref h0_least, .ref h0_most])), (h0_least, .inl (cy 5, 41, gO 41 rh0_least)), (h0_most, .inl (cy 5, 41, gO 41 rh0_most)), (g1_near, .inl (cy 2, 7, .inl w1_near))] ++ (gW rh0_least 41 7 (cy 2) (upM v_least p3.toNatClampNeg (upd (v_least p3.toNatClampNeg) s1_144.toNatClampNeg s0_144)) ++ gW rh0_most 41 7 (cy 2) v_most))) (ws2 := ([(h0, .inr (5, [.ref h0_least, .ref h0_most])), (h0_least, .inl (cy 5, 41, gO 41 rh0_least)), (h0_most, .inl (cy 5, 41, gO 41 rh0_most)), (g1, .inr (0, [.int w1_parts, og1_1, og1_2, og1_3, og1_4, og1_5, og1_6, .ref g1_rate, .ref g1_near, og1_9, og1_10, og1_11, og1_12])), (g1_rate, .inl (cy 2, 7, .inl w1_rate)), (g1_near, .inl (cy 2, 7, .inl w1_near))] ++ (gW rh0_least 41 7 (cy 2) (upM v_least p3.toNatClampNeg (upd (v_least p3.toNatClampNeg) s1_144.toNatClampNeg s0_144)) ++ gW rh0_most 41 7 (cy 2) v_most))) hx hb hml hown hts (c0_rateOf l D cy N g1 g1_rate og1_1 og1_2 og1_3 og1_4 og1_5 og1_6 (.ref g1_near) og1_9 og1_10 og1_11 og1_12 p4 w1_parts w1_rate r168 hc168) (cwV 1 hts gX5_layCell_X0_rateOf rfl rfl rfl (by decide +kernel) ⟨Nat.le_of_ble_eq_true rfl, Nat.le_of_ble_eq_true rfl⟩) hK hP hD hS hA rfl rfl (pm_Q (pm_x [0, 1, 2, 5, 3, 4] rfl rfl)) (pm_Q (pm_x [0, 1, 2, 5, 3, 4] rfl rfl)).symm rfl rfl hl.1 (Nat.le_of_ble_eq_true rfl) dX5_layCell_168 ⟨Nat.zero_le _, Nat.zero_le _⟩ (fun H locs hP hD hS => ?_)
        refine lv_iadd hx hb dX5_layCell_171 ?_
        obtain ⟨h172, hM⟩ := gi_some hM
        refine wv_iast hx hb hK hP hD hS 2 (gW_rowB h150) rfl h172 dX5_layCell_172 (fun H locs hP hD hS => ?_)
        have hP : va_P D vwCl ([(h0, .inr (5, [.ref h0_least, .ref h0_most])), (h0_least, .inl (cy 5, 41, gO 41 rh0_least)), (h0_most, .inl (cy 5, 41, gO 41 rh0_most)), (g1, .inr (0, [.int w1_parts, og1_1, og1_2, og1_3, og1_4, og1_5, og1_6, .ref g1_rate, .ref g1_near, og1_9, og1_10, og1_11, og1_12])), (g1_rate, .inl (cy 2, 7, .inl w1_rate)), (g1_near, .inl (cy 2, 7, .inl w1_near))] ++ (gW rh0_least 41 7 (cy 2) (upM v_least p3.toNatClampNeg (upd (v_least p3.toNatClampNeg) s1_144.toNatClampNeg s0_144)) ++ gW rh0_most 41 7 (cy 2) (upM v_most p3.toNatClampNeg (upd (v_most p3.toNatClampNeg) p4.toNatClampNeg (e6_25 + r168))))) H := hP
        have hD : va_D A ([(h0, .inr (5, [.ref h0_least, .ref h0_most])), (h0_least, .inl (cy 5, 41, gO 41 rh0_least)), (h0_most, .inl (cy 5, 41, gO 41 rh0_most)), (g1, .inr (0, [.int w1_parts, og1_1, og1_2, og1_3, og1_4, og1_5, og1_6, .ref g1_rate, .ref g1_near, og1_9, og1_10, og1_11, og1_12])), (g1_rate, .inl (cy 2, 7, .inl w1_rate)), (g1_near, .inl (cy 2, 7, .inl w1_near))] ++ (gW rh0_least 41 7 (cy 2) (upM v_least p3.toNatClampNeg (upd (v_least p3.toNatClampNeg) s1_144.toNatClampNeg s0_144)) ++ gW rh0_most 41 7 (cy 2) (upM v_most p3.toNatClampNeg (upd (v_most p3.toNatClampNeg) p4.toNatClampNeg (e6_25 + r168))))) := hD
        obtain ⟨rfl, rfl⟩ := si2 hM
        exact hret _ _ _ _ dX5_layCell_173 hP hD hS
      · have hM := g_pos c156 hM
        refine lv_iconst (v := -1) hx hb dX5_layCell_159 (by decide) ?_
        refine lv_goto (tgt := 172) hx hb dX5_layCell_160 (by decide) ?_
        obtain ⟨h172, hM⟩ := gi_some hM
        refine wv_iast hx hb hK hP hD hS 2 (gW_rowB h150) rfl h172 dX5_layCell_172 (fun H locs hP hD hS => ?_)
        have hP : va_P D vwCl ([(h0, .inr (5, [.ref h0_least, .ref h0_most])), (h0_least, .inl (cy 5, 41, gO 41 rh0_least)), (h0_most, .inl (cy 5, 41, gO 41 rh0_most)), (g1, .inr (0, [.int w1_parts, og1_1, og1_2, og1_3, og1_4, og1_5, og1_6, .ref g1_rate, .ref g1_near, og1_9, og1_10, og1_11, og1_12])), (g1_rate, .inl (cy 2, 7, .inl w1_rate)), (g1_near, .inl (cy 2, 7, .inl w1_near))] ++ (gW rh0_least 41 7 (cy 2) (upM v_least p3.toNatClampNeg (upd (v_least p3.toNatClampNeg) s1_144.toNatClampNeg s0_144)) ++ gW rh0_most 41 7 (cy 2) (upM v_most p3.toNatClampNeg (upd (v_most p3.toNatClampNeg) p4.toNatClampNeg (-1 : Int32))))) H := hP
        have hD : va_D A ([(h0, .inr (5, [.ref h0_least, .ref h0_most])), (h0_least, .inl (cy 5, 41, gO 41 rh0_least)), (h0_most, .inl (cy 5, 41, gO 41 rh0_most)), (g1, .inr (0, [.int w1_parts, og1_1, og1_2, og1_3, og1_4, og1_5, og1_6, .ref g1_rate, .ref g1_near, og1_9, og1_10, og1_11, og1_12])), (g1_rate, .inl (cy 2, 7, .inl w1_rate)), (g1_near, .inl (cy 2, 7, .inl w1_near))] ++ (gW rh0_least 41 7 (cy 2) (upM v_least p3.toNatClampNeg (upd (v_least p3.toNatClampNeg) s1_144.toNatClampNeg s0_144)) ++ gW rh0_most 41 7 (cy 2) (upM v_most p3.toNatClampNeg (upd (v_most p3.toNatClampNeg) p4.toNatClampNeg (-1 : Int32))))) := hD
        obtain ⟨rfl, rfl⟩ := si2 hM
        exact hret _ _ _ _ dX5_layCell_173 hP hD hS
    refine lv_icmp_ne (tgt := 135) hx hb dX5_layCell_128 (by decide) (fun c128 => ?_) (fun c128 => ?_)
    · have hM := g_neg c128 hM
      refine lv_iload hx hb dX5_layCell_135 (lv_at hl 4 rfl) ?_
      refine lv_aload_n hx hb dX5_layCell_137 rfl (lv_at hl 1 rfl) ?_
      refine lv_iload hx hb dX5_layCell_138 (lv_at hl 3 rfl) ?_
      obtain ⟨r140, hc140, hM⟩ := ob1_some hM
      refine cg_vi (As := [.int p4]) (rest := [.int e5_25, .int p4, .ref (rh0_least p3.toNatClampNeg)]) (ci := 0) (q0 := 3) (wr := ([(h0, .inr (5, [.ref h0_least, .ref h0_most])), (h0_least, .inl (cy 5, 41, gO 41 rh0_least)), (h0_most, .inl (cy 5, 41, gO 41 rh0_most)), (g1_near, .inl (cy 2, 7, .inl w1_near))] ++ (gW rh0_least 41 7 (cy 2) v_least ++ gW rh0_most 41 7 (cy 2) v_most))) (ws2 := ([(h0, .inr (5, [.ref h0_least, .ref h0_most])), (h0_least, .inl (cy 5, 41, gO 41 rh0_least)), (h0_most, .inl (cy 5, 41, gO 41 rh0_most)), (g1, .inr (0, [.int w1_parts, og1_1, og1_2, og1_3, og1_4, og1_5, og1_6, .ref g1_rate, .ref g1_near, og1_9, og1_10, og1_11, og1_12])), (g1_rate, .inl (cy 2, 7, .inl w1_rate)), (g1_near, .inl (cy 2, 7, .inl w1_near))] ++ (gW rh0_least 41 7 (cy 2) v_least ++ gW rh0_most 41 7 (cy 2) v_most))) hx hb hml hown hts (c0_rateOf l D cy N g1 g1_rate og1_1 og1_2 og1_3 og1_4 og1_5 og1_6 (.ref g1_near) og1_9 og1_10 og1_11 og1_12 p4 w1_parts w1_rate r140 hc140) (cwV 1 hts gX5_layCell_X0_rateOf rfl rfl rfl (by decide +kernel) ⟨Nat.le_of_ble_eq_true rfl, Nat.le_of_ble_eq_true rfl⟩) hK hP hD hS hA rfl rfl (pm_Q (pm_x [0, 1, 2, 5, 3, 4] rfl rfl)) (pm_Q (pm_x [0, 1, 2, 5, 3, 4] rfl rfl)).symm rfl rfl hl.1 (Nat.le_of_ble_eq_true rfl) dX5_layCell_140 ⟨Nat.zero_le _, Nat.zero_le _⟩ (fun H locs hP hD hS => ?_)
      refine lv_iadd hx hb dX5_layCell_143 ?_
      exact K144 (e5_25 + r140) p4 _ _ _ hM hP hD hS (lv_sub hl [0, 1, 2, 3, 5] rfl)
    · have hM := g_pos c128 hM
      refine lv_iconst (v := -1) hx hb dX5_layCell_131 (by decide) ?_
      refine lv_goto (tgt := 144) hx hb dX5_layCell_132 (by decide) ?_
      exact K144 (-1 : Int32) p4 _ _ _ hM hP hD hS (lv_sub hl [0, 1, 2, 3, 5] rfl)
  refine lv_icmp_ne (tgt := 15) hx hb dX5_layCell_2 (by decide) (fun c2 => ?_) (fun c2 => ?_)
  · have hM := g_neg c2 hM
    refine lv_iconst (v := -1) hx hb dX5_layCell_15 (by decide) ?_
    exact K16 (-1 : Int32) _ _ _ hM hP hD hS (lv_sub hl [0, 1, 3, 4] rfl)
  · have hM := g_pos c2 hM
    refine lv_iload hx hb dX5_layCell_5 (lv_at hl 4 rfl) ?_
    refine lv_iload_n hx hb dX5_layCell_7 rfl (lv_at hl 2 rfl) ?_
    refine lv_icmp_ne (tgt := 15) hx hb dX5_layCell_8 (by decide) (fun c8 => ?_) (fun c8 => ?_)
    · have hM := g_neg c8 hM
      refine lv_iconst (v := -1) hx hb dX5_layCell_15 (by decide) ?_
      exact K16 (-1 : Int32) _ _ _ hM hP hD hS (lv_sub hl [0, 1, 3, 4] rfl)
    · have hM := g_pos c8 hM
      refine lv_iconst (v := 0) hx hb dX5_layCell_11 (by decide) ?_
      refine lv_goto (tgt := 16) hx hb dX5_layCell_12 (by decide) ?_
      exact K16 (0 : Int32) _ _ _ hM hP hD hS (lv_sub hl [0, 1, 3, 4] rfl)

-- ===== X5_layDay layDay (LCaveYears$Cave;II)V =====
abbrev r5_layDay : Room := { frames := 4, cells := 0, slots := 0, locals := 92 }
def f5_layDay_L3 (N : Nat) (p2 : Int32) (p3 : Int32) (w1_parts : Int32) (w1_rate : Nat → Int32) (w1_near : Nat → Int32) : Nat → Int32 → (Nat → Nat → Int32) → (Nat → Nat → Int32) → Option ((Nat → Nat → Int32) × (Nat → Nat → Int32))
  | 0, _, _, _ => none
  | n + 1, x4_3, v_least_3, v_most_3 => if (7 : Int32) ≤ x4_3 then (some (v_least_3, v_most_3)) else (ob1 (f0_hasPart N x4_3 w1_parts) fun r13 => if r13 = (0 : Int32) then ((f5_layDay_L3 N p2 p3 w1_parts w1_rate w1_near n) (x4_3 + (1 : Int32)) v_least_3 v_most_3) else (ob1 (f5_isCell N p3 x4_3) fun r22 => if r22 = (0 : Int32) then ((f5_layDay_L3 N p2 p3 w1_parts w1_rate w1_near n) (x4_3 + (1 : Int32)) v_least_3 v_most_3) else (ob2 (f5_layCell N p2 p3 x4_3 v_least_3 v_most_3 w1_parts w1_rate w1_near) fun v_least_34 v_most_34 => (f5_layDay_L3 N p2 p3 w1_parts w1_rate w1_near n) (x4_3 + (1 : Int32)) v_least_34 v_most_34)))
def f5_layDay (N : Nat) (p2 : Int32) (p3 : Int32) (v_least : Nat → Nat → Int32) (v_most : Nat → Nat → Int32) (w1_parts : Int32) (w1_rate : Nat → Int32) (w1_near : Nat → Int32) : Option ((Nat → Nat → Int32) × (Nat → Nat → Int32)) :=
  ob2 (f5_layDay_L3 N p2 p3 w1_parts w1_rate w1_near N (0 : Int32) v_least v_most) fun v_least_e3 v_most_e3 => some (v_least_e3, v_most_e3)
set_option maxHeartbeats 4000000 in
set_option maxRecDepth 100000 in
theorem c5_layDay (l : Launch) (D : va_G) (cy : Nat → ClassId) (N : Nat) (rh0_least : Nat → Nat) (rh0_most : Nat → Nat) (h0 h0_least h0_most g1 g1_rate g1_near : Nat) (og1_1 og1_2 og1_3 og1_4 og1_5 og1_6 og1_9 og1_10 og1_11 og1_12 : Value) (p2 : Int32) (p3 : Int32) (v_least : Nat → Nat → Int32) (v_most : Nat → Nat → Int32) (w1_parts : Int32) (w1_rate : Nat → Int32) (w1_near : Nat → Int32) (nv_least : Nat → Nat → Int32) (nv_most : Nat → Nat → Int32) (hM : f5_layDay N p2 p3 v_least v_most w1_parts w1_rate w1_near = some (nv_least, nv_most)) (sz : Nat) : CTv l yX5_layDay wsX5_layDay r5_layDay [.ref h0, .ref g1, .int p2, .int p3] D cy sz ([(h0, .inr (5, [.ref h0_least, .ref h0_most])), (h0_least, .inl (cy 5, 41, gO 41 rh0_least)), (h0_most, .inl (cy 5, 41, gO 41 rh0_most)), (g1, .inr (0, [.int w1_parts, og1_1, og1_2, og1_3, og1_4, og1_5, og1_6, .ref g1_rate, .ref g1_near, og1_9, og1_10, og1_11, og1_12])), (g1_rate, .inl (cy 2, 7, .inl w1_rate)), (g1_near, .inl (cy 2, 7, .inl w1_near))] ++ (gW rh0_least 41 7 (cy 2) v_least ++ gW rh0_most 41 7 (cy 2) v_most)) ([(h0, .inr (5, [.ref h0_least, .ref h0_most])), (h0_least, .inl (cy 5, 41, gO 41 rh0_least)), (h0_most, .inl (cy 5, 41, gO 41 rh0_most)), (g1, .inr (0, [.int w1_parts, og1_1, og1_2, og1_3, og1_4, og1_5, og1_6, .ref g1_rate, .ref g1_near, og1_9, og1_10, og1_11, og1_12])), (g1_rate, .inl (cy 2, 7, .inl w1_rate)), (g1_near, .inl (cy 2, 7, .inl w1_near))] ++ (gW rh0_least 41 7 (cy 2) nv_least ++ gW rh0_most 41 7 (cy 2) nv_most)) := by
  unfold f5_layDay at hM
  refine ct_ov (cc := cX5_layDay) (maxL := 5)  (by decide +kernel) rfl (Nat.le_of_ble_eq_true rfl) (lv0 := [(0, .ref h0), (1, .ref g1), (2, .int p2), (3, .int p3)]) rfl ?_
  intro p e s m args below meth c A Q ls hx hb hts hown hml hK hP hD hS hA hret hl
  have hown : s.vm.findClass RX5 = some m.cls := hown
  refine lv_iconst (v := 0) hx hb dX5_layDay_0 (by decide) ?_
  refine lv_istore (lv' := [(4, .int (0 : Int32)), (0, .ref h0), (1, .ref g1), (2, .int p2), (3, .int p3)]) hx hb dX5_layDay_1 hl (by decide) rfl (fun ls hl => ?_)
  have L3 : ∀ (n : Nat) (x4_3 : Int32) (v_least_3 : Nat → Nat → Int32) (v_most_3 : Nat → Nat → Int32) (v_least_e3 : Nat → Nat → Int32) (v_most_e3 : Nat → Nat → Int32) (H : Heap) (locs : List Loc) (ls : Array Slot), f5_layDay_L3 N p2 p3 w1_parts w1_rate w1_near n x4_3 v_least_3 v_most_3 = some (v_least_e3, v_most_e3) → va_P D vwCl ([(h0, .inr (5, [.ref h0_least, .ref h0_most])), (h0_least, .inl (cy 5, 41, gO 41 rh0_least)), (h0_most, .inl (cy 5, 41, gO 41 rh0_most)), (g1, .inr (0, [.int w1_parts, og1_1, og1_2, og1_3, og1_4, og1_5, og1_6, .ref g1_rate, .ref g1_near, og1_9, og1_10, og1_11, og1_12])), (g1_rate, .inl (cy 2, 7, .inl w1_rate)), (g1_near, .inl (cy 2, 7, .inl w1_near))] ++ (gW rh0_least 41 7 (cy 2) v_least_3 ++ gW rh0_most 41 7 (cy 2) v_most_3)) H → va_D A ([(h0, .inr (5, [.ref h0_least, .ref h0_most])), (h0_least, .inl (cy 5, 41, gO 41 rh0_least)), (h0_most, .inl (cy 5, 41, gO 41 rh0_most)), (g1, .inr (0, [.int w1_parts, og1_1, og1_2, og1_3, og1_4, og1_5, og1_6, .ref g1_rate, .ref g1_near, og1_9, og1_10, og1_11, og1_12])), (g1_rate, .inl (cy 2, 7, .inl w1_rate)), (g1_near, .inl (cy 2, 7, .inl w1_near))] ++ (gW rh0_least 41 7 (cy 2) v_least_3 ++ gW rh0_most 41 7 (cy 2) v_most_3)) → va_S A s.heap H locs → lv_has ls 5 [(0, .ref h0), (1, .ref g1), (2, .int p2), (3, .int p3), (4, .int x4_3)] → (∀ (H : Heap) (locs : List Loc) (ls : Array Slot), va_P D vwCl ([(h0, .inr (5, [.ref h0_least, .ref h0_most])), (h0_least, .inl (cy 5, 41, gO 41 rh0_least)), (h0_most, .inl (cy 5, 41, gO 41 rh0_most)), (g1, .inr (0, [.int w1_parts, og1_1, og1_2, og1_3, og1_4, og1_5, og1_6, .ref g1_rate, .ref g1_near, og1_9, og1_10, og1_11, og1_12])), (g1_rate, .inl (cy 2, 7, .inl w1_rate)), (g1_near, .inl (cy 2, 7, .inl w1_near))] ++ (gW rh0_least 41 7 (cy 2) v_least_e3 ++ gW rh0_most 41 7 (cy 2) v_most_e3)) H → va_D A ([(h0, .inr (5, [.ref h0_least, .ref h0_most])), (h0_least, .inl (cy 5, 41, gO 41 rh0_least)), (h0_most, .inl (cy 5, 41, gO 41 rh0_most)), (g1, .inr (0, [.int w1_parts, og1_1, og1_2, og1_3, og1_4, og1_5, og1_6, .ref g1_rate, .ref g1_near, og1_9, og1_10, og1_11, og1_12])), (g1_rate, .inl (cy 2, 7, .inl w1_rate)), (g1_near, .inl (cy 2, 7, .inl w1_near))] ++ (gW rh0_least 41 7 (cy 2) v_least_e3 ++ gW rh0_most 41 7 (cy 2) v_most_e3)) → va_S A s.heap H locs → lv_has ls 5 [] → W p l e r5_layDay s m args below meth c H locs 0 0 Q (F0 m 43 ls [])) → W p l e r5_layDay s m args below meth c H locs 0 0 Q (F0 m 3 ls []) := by
    intro n
    induction n with
    | zero =>
      intro x4_3 v_least_3 v_most_3 v_least_e3 v_most_e3 H locs ls hM
      exact absurd hM (by simp [f5_layDay_L3])
    | succ n ih =>
      intro x4_3 v_least_3 v_most_3 v_least_e3 v_most_e3 H locs ls hM hP hD hS hl K
      rw [f5_layDay_L3] at hM
      refine lv_iload hx hb dX5_layDay_3 (lv_at hl 4 rfl) ?_
      refine lv_bipush (v := 7) hx hb dX5_layDay_5 (by decide) ?_
      refine lv_icmp_ge (tgt := 43) hx hb dX5_layDay_7 (by decide) (fun c7 => ?_) (fun c7 => ?_)
      · have hM := g_pos c7 hM
        obtain ⟨rfl, rfl⟩ := si2 hM
        exact K _ _ _ hP hD hS (lv_sub hl [] rfl)
      · have hM := g_neg c7 hM
        refine lv_aload_n hx hb dX5_layDay_10 rfl (lv_at hl 1 rfl) ?_
        refine lv_iload hx hb dX5_layDay_11 (lv_at hl 4 rfl) ?_
        obtain ⟨r13, hc13, hM⟩ := ob1_some hM
        refine cg_vi (As := [.int x4_3]) (rest := []) (ci := 0) (q0 := 3) (wr := ([(h0, .inr (5, [.ref h0_least, .ref h0_most])), (h0_least, .inl (cy 5, 41, gO 41 rh0_least)), (h0_most, .inl (cy 5, 41, gO 41 rh0_most)), (g1_rate, .inl (cy 2, 7, .inl w1_rate)), (g1_near, .inl (cy 2, 7, .inl w1_near))] ++ (gW rh0_least 41 7 (cy 2) v_least_3 ++ gW rh0_most 41 7 (cy 2) v_most_3))) (ws2 := ([(h0, .inr (5, [.ref h0_least, .ref h0_most])), (h0_least, .inl (cy 5, 41, gO 41 rh0_least)), (h0_most, .inl (cy 5, 41, gO 41 rh0_most)), (g1, .inr (0, [.int w1_parts, og1_1, og1_2, og1_3, og1_4, og1_5, og1_6, .ref g1_rate, .ref g1_near, og1_9, og1_10, og1_11, og1_12])), (g1_rate, .inl (cy 2, 7, .inl w1_rate)), (g1_near, .inl (cy 2, 7, .inl w1_near))] ++ (gW rh0_least 41 7 (cy 2) v_least_3 ++ gW rh0_most 41 7 (cy 2) v_most_3))) hx hb hml hown hts (c0_hasPart l D cy N g1 og1_1 og1_2 og1_3 og1_4 og1_5 og1_6 (.ref g1_rate) (.ref g1_near) og1_9 og1_10 og1_11 og1_12 x4_3 w1_parts r13 hc13) (cwV 1 hts gX5_layDay_X0_hasPart rfl rfl rfl (by decide +kernel) ⟨Nat.le_of_ble_eq_true rfl, Nat.le_of_ble_eq_true rfl⟩) hK hP hD hS hA rfl rfl (pm_Q (pm_x [0, 1, 2, 4, 5, 3] rfl rfl)) (pm_Q (pm_x [0, 1, 2, 4, 5, 3] rfl rfl)).symm rfl rfl hl.1 (Nat.le_of_ble_eq_true rfl) dX5_layDay_13 ⟨Nat.zero_le _, Nat.zero_le _⟩ (fun H locs hP hD hS => ?_)
        refine lv_if_eq (tgt := 37) hx hb dX5_layDay_16 (by decide) (fun c16 => ?_) (fun c16 => ?_)
        · have hM := g_pos c16 hM
          refine lv_iinc (v := x4_3 + (1 : Int32)) (lv' := [(4, .int (x4_3 + (1 : Int32))), (0, .ref h0), (1, .ref g1), (2, .int p2), (3, .int p3)]) hx hb dX5_layDay_37 hl (k := 4) rfl rfl (by decide) rfl (fun ls hl => ?_)
          refine lv_goto (tgt := 3) hx hb dX5_layDay_40 (by decide) ?_
          exact ih (x4_3 + (1 : Int32)) v_least_3 v_most_3 v_least_e3 v_most_e3 _ _ _ hM hP hD hS (lv_sub hl [1, 2, 3, 4, 0] rfl) K
        · have hM := g_neg c16 hM
          refine lv_iload_n hx hb dX5_layDay_19 rfl (lv_at hl 3 rfl) ?_
          refine lv_iload hx hb dX5_layDay_20 (lv_at hl 4 rfl) ?_
          obtain ⟨r22, hc22, hM⟩ := ob1_some hM
          refine cg_si (As := [.int p3, .int x4_3]) (rest := []) (wr := ([(h0, .inr (5, [.ref h0_least, .ref h0_most])), (h0_least, .inl (cy 5, 41, gO 41 rh0_least)), (h0_most, .inl (cy 5, 41, gO 41 rh0_most)), (g1, .inr (0, [.int w1_parts, og1_1, og1_2, og1_3, og1_4, og1_5, og1_6, .ref g1_rate, .ref g1_near, og1_9, og1_10, og1_11, og1_12])), (g1_rate, .inl (cy 2, 7, .inl w1_rate)), (g1_near, .inl (cy 2, 7, .inl w1_near))] ++ (gW rh0_least 41 7 (cy 2) v_least_3 ++ gW rh0_most 41 7 (cy 2) v_most_3))) (ws2 := ([(h0, .inr (5, [.ref h0_least, .ref h0_most])), (h0_least, .inl (cy 5, 41, gO 41 rh0_least)), (h0_most, .inl (cy 5, 41, gO 41 rh0_most)), (g1, .inr (0, [.int w1_parts, og1_1, og1_2, og1_3, og1_4, og1_5, og1_6, .ref g1_rate, .ref g1_near, og1_9, og1_10, og1_11, og1_12])), (g1_rate, .inl (cy 2, 7, .inl w1_rate)), (g1_near, .inl (cy 2, 7, .inl w1_near))] ++ (gW rh0_least 41 7 (cy 2) v_least_3 ++ gW rh0_most 41 7 (cy 2) v_most_3))) hx hb hml hown hts (c5_isCell l D cy N p3 x4_3 r22 hc22) (va_cwS 2 hts gX5_layDay_X5_isCell rfl rfl rfl (by decide +kernel) ⟨Nat.le_of_ble_eq_true rfl, Nat.le_of_ble_eq_true rfl⟩) hK hP hD hS hA (pm_Q (pm_x [0, 1, 2, 3, 4, 5] rfl rfl)) (pm_Q (pm_x [0, 1, 2, 3, 4, 5] rfl rfl)).symm rfl rfl hl.1 (Nat.le_of_ble_eq_true rfl) dX5_layDay_22 ⟨Nat.zero_le _, Nat.zero_le _⟩ (fun H locs hP hD hS => ?_)
          refine lv_if_eq (tgt := 37) hx hb dX5_layDay_25 (by decide) (fun c25 => ?_) (fun c25 => ?_)
          · have hM := g_pos c25 hM
            refine lv_iinc (v := x4_3 + (1 : Int32)) (lv' := [(4, .int (x4_3 + (1 : Int32))), (0, .ref h0), (1, .ref g1), (2, .int p2), (3, .int p3)]) hx hb dX5_layDay_37 hl (k := 4) rfl rfl (by decide) rfl (fun ls hl => ?_)
            refine lv_goto (tgt := 3) hx hb dX5_layDay_40 (by decide) ?_
            exact ih (x4_3 + (1 : Int32)) v_least_3 v_most_3 v_least_e3 v_most_e3 _ _ _ hM hP hD hS (lv_sub hl [1, 2, 3, 4, 0] rfl) K
          · have hM := g_neg c25 hM
            refine lv_aload_n hx hb dX5_layDay_28 rfl (lv_at hl 0 rfl) ?_
            refine lv_aload_n hx hb dX5_layDay_29 rfl (lv_at hl 1 rfl) ?_
            refine lv_iload_n hx hb dX5_layDay_30 rfl (lv_at hl 2 rfl) ?_
            refine lv_iload_n hx hb dX5_layDay_31 rfl (lv_at hl 3 rfl) ?_
            refine lv_iload hx hb dX5_layDay_32 (lv_at hl 4 rfl) ?_
            obtain ⟨v_least_34, v_most_34, hc34, hM⟩ := ob2_some hM
            refine cg_vv (As := [.ref g1, .int p2, .int p3, .int x4_3]) (rest := []) (ci := 5) (q0 := 0) (wr := []) (ws2 := ([(h0, .inr (5, [.ref h0_least, .ref h0_most])), (h0_least, .inl (cy 5, 41, gO 41 rh0_least)), (h0_most, .inl (cy 5, 41, gO 41 rh0_most)), (g1, .inr (0, [.int w1_parts, og1_1, og1_2, og1_3, og1_4, og1_5, og1_6, .ref g1_rate, .ref g1_near, og1_9, og1_10, og1_11, og1_12])), (g1_rate, .inl (cy 2, 7, .inl w1_rate)), (g1_near, .inl (cy 2, 7, .inl w1_near))] ++ (gW rh0_least 41 7 (cy 2) v_least_34 ++ gW rh0_most 41 7 (cy 2) v_most_34))) hx hb hml hown hts (c5_layCell l D cy N rh0_least rh0_most h0 h0_least h0_most g1 g1_rate g1_near og1_1 og1_2 og1_3 og1_4 og1_5 og1_6 og1_9 og1_10 og1_11 og1_12 p2 p3 x4_3 v_least_3 v_most_3 w1_parts w1_rate w1_near v_least_34 v_most_34 hc34) (cwV 4 hts gX5_layDay_X5_layCell rfl rfl rfl (by decide +kernel) ⟨Nat.le_of_ble_eq_true rfl, Nat.le_of_ble_eq_true rfl⟩) hK hP hD hS hA rfl rfl (pm_P (pm_x [0, 1, 2, 3, 4, 5] rfl rfl)) (pm_P (pm_x [0, 1, 2, 3, 4, 5] rfl rfl)).symm rfl rfl hl.1 (Nat.le_of_ble_eq_true rfl) dX5_layDay_34 ⟨Nat.zero_le _, Nat.zero_le _⟩ (fun H locs hP hD hS => ?_)
            refine lv_iinc (v := x4_3 + (1 : Int32)) (lv' := [(4, .int (x4_3 + (1 : Int32))), (0, .ref h0), (1, .ref g1), (2, .int p2), (3, .int p3)]) hx hb dX5_layDay_37 hl (k := 4) rfl rfl (by decide) rfl (fun ls hl => ?_)
            refine lv_goto (tgt := 3) hx hb dX5_layDay_40 (by decide) ?_
            exact ih (x4_3 + (1 : Int32)) v_least_34 v_most_34 v_least_e3 v_most_e3 _ _ _ hM hP hD hS (lv_sub hl [1, 2, 3, 4, 0] rfl) K
  obtain ⟨v_least_e3, v_most_e3, hL3, hM⟩ := ob2_some hM
  refine L3 N (0 : Int32) v_least v_most v_least_e3 v_most_e3 _ _ _ hL3 hP hD hS (lv_sub hl [1, 2, 3, 4, 0] rfl) ?_
  intro H locs ls hP hD hS hl
  obtain ⟨rfl, rfl⟩ := si2 hM
  exact hret _ _ _ _ dX5_layDay_43 hP hD hS

-- ===== X5_layDays layDays (LCaveYears$Cave;II)V =====
abbrev r5_layDays : Room := { frames := 5, cells := 0, slots := 0, locals := 116 }
def f5_layDays_L3 (N : Nat) (p2 : Int32) (p3 : Int32) (w1_parts : Int32) (w1_rate : Nat → Int32) (w1_near : Nat → Int32) : Nat → Int32 → (Nat → Nat → Int32) → (Nat → Nat → Int32) → Option ((Nat → Nat → Int32) × (Nat → Nat → Int32))
  | 0, _, _, _ => none
  | n + 1, x4_3, v_least_3, v_most_3 => if p3 < x4_3 then (some (v_least_3, v_most_3)) else (if (40 : Int32) < x4_3 then (some (v_least_3, v_most_3)) else (ob2 (f5_layDay N p2 x4_3 v_least_3 v_most_3 w1_parts w1_rate w1_near) fun v_least_21 v_most_21 => (f5_layDays_L3 N p2 p3 w1_parts w1_rate w1_near n) (x4_3 + (1 : Int32)) v_least_21 v_most_21))
def f5_layDays (N : Nat) (p2 : Int32) (p3 : Int32) (v_least : Nat → Nat → Int32) (v_most : Nat → Nat → Int32) (w1_parts : Int32) (w1_rate : Nat → Int32) (w1_near : Nat → Int32) : Option ((Nat → Nat → Int32) × (Nat → Nat → Int32)) :=
  ob2 (f5_layDays_L3 N p2 p3 w1_parts w1_rate w1_near N (1 : Int32) v_least v_most) fun v_least_e3 v_most_e3 => some (v_least_e3, v_most_e3)
set_option maxHeartbeats 4000000 in
set_option maxRecDepth 100000 in
theorem c5_layDays (l : Launch) (D : va_G) (cy : Nat → ClassId) (N : Nat) (rh0_least : Nat → Nat) (rh0_most : Nat → Nat) (h0 h0_least h0_most g1 g1_rate g1_near : Nat) (og1_1 og1_2 og1_3 og1_4 og1_5 og1_6 og1_9 og1_10 og1_11 og1_12 : Value) (p2 : Int32) (p3 : Int32) (v_least : Nat → Nat → Int32) (v_most : Nat → Nat → Int32) (w1_parts : Int32) (w1_rate : Nat → Int32) (w1_near : Nat → Int32) (nv_least : Nat → Nat → Int32) (nv_most : Nat → Nat → Int32) (hM : f5_layDays N p2 p3 v_least v_most w1_parts w1_rate w1_near = some (nv_least, nv_most)) (sz : Nat) : CTv l yX5_layDays wsX5_layDays r5_layDays [.ref h0, .ref g1, .int p2, .int p3] D cy sz ([(h0, .inr (5, [.ref h0_least, .ref h0_most])), (h0_least, .inl (cy 5, 41, gO 41 rh0_least)), (h0_most, .inl (cy 5, 41, gO 41 rh0_most)), (g1, .inr (0, [.int w1_parts, og1_1, og1_2, og1_3, og1_4, og1_5, og1_6, .ref g1_rate, .ref g1_near, og1_9, og1_10, og1_11, og1_12])), (g1_rate, .inl (cy 2, 7, .inl w1_rate)), (g1_near, .inl (cy 2, 7, .inl w1_near))] ++ (gW rh0_least 41 7 (cy 2) v_least ++ gW rh0_most 41 7 (cy 2) v_most)) ([(h0, .inr (5, [.ref h0_least, .ref h0_most])), (h0_least, .inl (cy 5, 41, gO 41 rh0_least)), (h0_most, .inl (cy 5, 41, gO 41 rh0_most)), (g1, .inr (0, [.int w1_parts, og1_1, og1_2, og1_3, og1_4, og1_5, og1_6, .ref g1_rate, .ref g1_near, og1_9, og1_10, og1_11, og1_12])), (g1_rate, .inl (cy 2, 7, .inl w1_rate)), (g1_near, .inl (cy 2, 7, .inl w1_near))] ++ (gW rh0_least 41 7 (cy 2) nv_least ++ gW rh0_most 41 7 (cy 2) nv_most)) := by
  unfold f5_layDays at hM
  refine ct_ov (cc := cX5_layDays) (maxL := 5)  (by decide +kernel) rfl (Nat.le_of_ble_eq_true rfl) (lv0 := [(0, .ref h0), (1, .ref g1), (2, .int p2), (3, .int p3)]) rfl ?_
  intro p e s m args below meth c A Q ls hx hb hts hown hml hK hP hD hS hA hret hl
  have hown : s.vm.findClass RX5 = some m.cls := hown
  refine lv_iconst (v := 1) hx hb dX5_layDays_0 (by decide) ?_
  refine lv_istore (lv' := [(4, .int (1 : Int32)), (0, .ref h0), (1, .ref g1), (2, .int p2), (3, .int p3)]) hx hb dX5_layDays_1 hl (by decide) rfl (fun ls hl => ?_)
  have L3 : ∀ (n : Nat) (x4_3 : Int32) (v_least_3 : Nat → Nat → Int32) (v_most_3 : Nat → Nat → Int32) (v_least_e3 : Nat → Nat → Int32) (v_most_e3 : Nat → Nat → Int32) (H : Heap) (locs : List Loc) (ls : Array Slot), f5_layDays_L3 N p2 p3 w1_parts w1_rate w1_near n x4_3 v_least_3 v_most_3 = some (v_least_e3, v_most_e3) → va_P D vwCl ([(h0, .inr (5, [.ref h0_least, .ref h0_most])), (h0_least, .inl (cy 5, 41, gO 41 rh0_least)), (h0_most, .inl (cy 5, 41, gO 41 rh0_most)), (g1, .inr (0, [.int w1_parts, og1_1, og1_2, og1_3, og1_4, og1_5, og1_6, .ref g1_rate, .ref g1_near, og1_9, og1_10, og1_11, og1_12])), (g1_rate, .inl (cy 2, 7, .inl w1_rate)), (g1_near, .inl (cy 2, 7, .inl w1_near))] ++ (gW rh0_least 41 7 (cy 2) v_least_3 ++ gW rh0_most 41 7 (cy 2) v_most_3)) H → va_D A ([(h0, .inr (5, [.ref h0_least, .ref h0_most])), (h0_least, .inl (cy 5, 41, gO 41 rh0_least)), (h0_most, .inl (cy 5, 41, gO 41 rh0_most)), (g1, .inr (0, [.int w1_parts, og1_1, og1_2, og1_3, og1_4, og1_5, og1_6, .ref g1_rate, .ref g1_near, og1_9, og1_10, og1_11, og1_12])), (g1_rate, .inl (cy 2, 7, .inl w1_rate)), (g1_near, .inl (cy 2, 7, .inl w1_near))] ++ (gW rh0_least 41 7 (cy 2) v_least_3 ++ gW rh0_most 41 7 (cy 2) v_most_3)) → va_S A s.heap H locs → lv_has ls 5 [(0, .ref h0), (1, .ref g1), (2, .int p2), (3, .int p3), (4, .int x4_3)] → (∀ (H : Heap) (locs : List Loc) (ls : Array Slot), va_P D vwCl ([(h0, .inr (5, [.ref h0_least, .ref h0_most])), (h0_least, .inl (cy 5, 41, gO 41 rh0_least)), (h0_most, .inl (cy 5, 41, gO 41 rh0_most)), (g1, .inr (0, [.int w1_parts, og1_1, og1_2, og1_3, og1_4, og1_5, og1_6, .ref g1_rate, .ref g1_near, og1_9, og1_10, og1_11, og1_12])), (g1_rate, .inl (cy 2, 7, .inl w1_rate)), (g1_near, .inl (cy 2, 7, .inl w1_near))] ++ (gW rh0_least 41 7 (cy 2) v_least_e3 ++ gW rh0_most 41 7 (cy 2) v_most_e3)) H → va_D A ([(h0, .inr (5, [.ref h0_least, .ref h0_most])), (h0_least, .inl (cy 5, 41, gO 41 rh0_least)), (h0_most, .inl (cy 5, 41, gO 41 rh0_most)), (g1, .inr (0, [.int w1_parts, og1_1, og1_2, og1_3, og1_4, og1_5, og1_6, .ref g1_rate, .ref g1_near, og1_9, og1_10, og1_11, og1_12])), (g1_rate, .inl (cy 2, 7, .inl w1_rate)), (g1_near, .inl (cy 2, 7, .inl w1_near))] ++ (gW rh0_least 41 7 (cy 2) v_least_e3 ++ gW rh0_most 41 7 (cy 2) v_most_e3)) → va_S A s.heap H locs → lv_has ls 5 [] → W p l e r5_layDays s m args below meth c H locs 0 0 Q (F0 m 30 ls [])) → W p l e r5_layDays s m args below meth c H locs 0 0 Q (F0 m 3 ls []) := by
    intro n
    induction n with
    | zero =>
      intro x4_3 v_least_3 v_most_3 v_least_e3 v_most_e3 H locs ls hM
      exact absurd hM (by simp [f5_layDays_L3])
    | succ n ih =>
      intro x4_3 v_least_3 v_most_3 v_least_e3 v_most_e3 H locs ls hM hP hD hS hl K
      rw [f5_layDays_L3] at hM
      refine lv_iload hx hb dX5_layDays_3 (lv_at hl 4 rfl) ?_
      refine lv_iload_n hx hb dX5_layDays_5 rfl (lv_at hl 3 rfl) ?_
      refine lv_icmp_gt (tgt := 30) hx hb dX5_layDays_6 (by decide) (fun c6 => ?_) (fun c6 => ?_)
      · have hM := g_pos c6 hM
        obtain ⟨rfl, rfl⟩ := si2 hM
        exact K _ _ _ hP hD hS (lv_sub hl [] rfl)
      · have hM := g_neg c6 hM
        refine lv_iload hx hb dX5_layDays_9 (lv_at hl 4 rfl) ?_
        refine lv_bipush (v := 40) hx hb dX5_layDays_11 (by decide) ?_
        refine lv_icmp_gt (tgt := 30) hx hb dX5_layDays_13 (by decide) (fun c13 => ?_) (fun c13 => ?_)
        · have hM := g_pos c13 hM
          obtain ⟨rfl, rfl⟩ := si2 hM
          exact K _ _ _ hP hD hS (lv_sub hl [] rfl)
        · have hM := g_neg c13 hM
          refine lv_aload_n hx hb dX5_layDays_16 rfl (lv_at hl 0 rfl) ?_
          refine lv_aload_n hx hb dX5_layDays_17 rfl (lv_at hl 1 rfl) ?_
          refine lv_iload_n hx hb dX5_layDays_18 rfl (lv_at hl 2 rfl) ?_
          refine lv_iload hx hb dX5_layDays_19 (lv_at hl 4 rfl) ?_
          obtain ⟨v_least_21, v_most_21, hc21, hM⟩ := ob2_some hM
          refine cg_vv (As := [.ref g1, .int p2, .int x4_3]) (rest := []) (ci := 5) (q0 := 0) (wr := []) (ws2 := ([(h0, .inr (5, [.ref h0_least, .ref h0_most])), (h0_least, .inl (cy 5, 41, gO 41 rh0_least)), (h0_most, .inl (cy 5, 41, gO 41 rh0_most)), (g1, .inr (0, [.int w1_parts, og1_1, og1_2, og1_3, og1_4, og1_5, og1_6, .ref g1_rate, .ref g1_near, og1_9, og1_10, og1_11, og1_12])), (g1_rate, .inl (cy 2, 7, .inl w1_rate)), (g1_near, .inl (cy 2, 7, .inl w1_near))] ++ (gW rh0_least 41 7 (cy 2) v_least_21 ++ gW rh0_most 41 7 (cy 2) v_most_21))) hx hb hml hown hts (c5_layDay l D cy N rh0_least rh0_most h0 h0_least h0_most g1 g1_rate g1_near og1_1 og1_2 og1_3 og1_4 og1_5 og1_6 og1_9 og1_10 og1_11 og1_12 p2 x4_3 v_least_3 v_most_3 w1_parts w1_rate w1_near v_least_21 v_most_21 hc21) (cwV 3 hts gX5_layDays_X5_layDay rfl rfl rfl (by decide +kernel) ⟨Nat.le_of_ble_eq_true rfl, Nat.le_of_ble_eq_true rfl⟩) hK hP hD hS hA rfl rfl (pm_P (pm_x [0, 1, 2, 3, 4, 5] rfl rfl)) (pm_P (pm_x [0, 1, 2, 3, 4, 5] rfl rfl)).symm rfl rfl hl.1 (Nat.le_of_ble_eq_true rfl) dX5_layDays_21 ⟨Nat.zero_le _, Nat.zero_le _⟩ (fun H locs hP hD hS => ?_)
          refine lv_iinc (v := x4_3 + (1 : Int32)) (lv' := [(4, .int (x4_3 + (1 : Int32))), (0, .ref h0), (1, .ref g1), (2, .int p2), (3, .int p3)]) hx hb dX5_layDays_24 hl (k := 4) rfl rfl (by decide) rfl (fun ls hl => ?_)
          refine lv_goto (tgt := 3) hx hb dX5_layDays_27 (by decide) ?_
          exact ih (x4_3 + (1 : Int32)) v_least_21 v_most_21 v_least_e3 v_most_e3 _ _ _ hM hP hD hS (lv_sub hl [1, 2, 3, 4, 0] rfl) K
  obtain ⟨v_least_e3, v_most_e3, hL3, hM⟩ := ob2_some hM
  refine L3 N (1 : Int32) v_least v_most v_least_e3 v_most_e3 _ _ _ hL3 hP hD hS (lv_sub hl [1, 2, 3, 4, 0] rfl) ?_
  intro H locs ls hP hD hS hl
  obtain ⟨rfl, rfl⟩ := si2 hM
  exact hret _ _ _ _ dX5_layDays_30 hP hD hS

-- ===== X5_daysReaching daysReaching (LCaveYears$Cave;III)I =====
abbrev r5_daysReaching : Room := { frames := 5, cells := 0, slots := 0, locals := 116 }
def f5_daysReaching_L3 (N : Nat) (p2 : Int32) (p3 : Int32) (p4 : Int32) (w1_parts : Int32) (w1_rate : Nat → Int32) (w1_near : Nat → Int32) : Nat → Int32 → (Nat → Nat → Int32) → (Nat → Nat → Int32) → Option (Int32 × (Nat → Nat → Int32) × (Nat → Nat → Int32))
  | 0, _, _, _ => none
  | n + 1, x5_3, v_least_3, v_most_3 => if (40 : Int32) < x5_3 then (some ((-1 : Int32), v_least_3, v_most_3)) else (ob2 (f5_layDay N p3 x5_3 v_least_3 v_most_3 w1_parts w1_rate w1_near) fun v_least_15 v_most_15 => ob1 (f5_mostTime N x5_3 p2 v_least_15 v_most_15) fun r22 => if r22 < (if (0 : Int32) < p4 then p4 else (0 : Int32)) then ((f5_daysReaching_L3 N p2 p3 p4 w1_parts w1_rate w1_near n) (x5_3 + (1 : Int32)) v_least_15 v_most_15) else (some (x5_3, v_least_15, v_most_15)))
def f5_daysReaching (N : Nat) (p2 : Int32) (p3 : Int32) (p4 : Int32) (v_least : Nat → Nat → Int32) (v_most : Nat → Nat → Int32) (w1_parts : Int32) (w1_rate : Nat → Int32) (w1_near : Nat → Int32) : Option (Int32 × (Nat → Nat → Int32) × (Nat → Nat → Int32)) :=
  f5_daysReaching_L3 N p2 p3 p4 w1_parts w1_rate w1_near N (1 : Int32) v_least v_most
set_option maxHeartbeats 4000000 in
set_option maxRecDepth 100000 in
theorem c5_daysReaching (l : Launch) (D : va_G) (cy : Nat → ClassId) (N : Nat) (rh0_least : Nat → Nat) (rh0_most : Nat → Nat) (h0 h0_least h0_most g1 g1_rate g1_near : Nat) (og1_1 og1_2 og1_3 og1_4 og1_5 og1_6 og1_9 og1_10 og1_11 og1_12 : Value) (p2 : Int32) (p3 : Int32) (p4 : Int32) (v_least : Nat → Nat → Int32) (v_most : Nat → Nat → Int32) (w1_parts : Int32) (w1_rate : Nat → Int32) (w1_near : Nat → Int32) (r : Int32) (nv_least : Nat → Nat → Int32) (nv_most : Nat → Nat → Int32) (hM : f5_daysReaching N p2 p3 p4 v_least v_most w1_parts w1_rate w1_near = some (r, nv_least, nv_most)) (sz : Nat) : CTi l yX5_daysReaching wsX5_daysReaching r5_daysReaching [.ref h0, .ref g1, .int p2, .int p3, .int p4] D cy sz ([(h0, .inr (5, [.ref h0_least, .ref h0_most])), (h0_least, .inl (cy 5, 41, gO 41 rh0_least)), (h0_most, .inl (cy 5, 41, gO 41 rh0_most)), (g1, .inr (0, [.int w1_parts, og1_1, og1_2, og1_3, og1_4, og1_5, og1_6, .ref g1_rate, .ref g1_near, og1_9, og1_10, og1_11, og1_12])), (g1_rate, .inl (cy 2, 7, .inl w1_rate)), (g1_near, .inl (cy 2, 7, .inl w1_near))] ++ (gW rh0_least 41 7 (cy 2) v_least ++ gW rh0_most 41 7 (cy 2) v_most)) ([(h0, .inr (5, [.ref h0_least, .ref h0_most])), (h0_least, .inl (cy 5, 41, gO 41 rh0_least)), (h0_most, .inl (cy 5, 41, gO 41 rh0_most)), (g1, .inr (0, [.int w1_parts, og1_1, og1_2, og1_3, og1_4, og1_5, og1_6, .ref g1_rate, .ref g1_near, og1_9, og1_10, og1_11, og1_12])), (g1_rate, .inl (cy 2, 7, .inl w1_rate)), (g1_near, .inl (cy 2, 7, .inl w1_near))] ++ (gW rh0_least 41 7 (cy 2) nv_least ++ gW rh0_most 41 7 (cy 2) nv_most)) r := by
  unfold f5_daysReaching at hM
  refine ct_oi (cc := cX5_daysReaching) (maxL := 6) (ty := .int) (by decide +kernel) rfl (Nat.le_of_ble_eq_true rfl) (lv0 := [(0, .ref h0), (1, .ref g1), (2, .int p2), (3, .int p3), (4, .int p4)]) rfl ?_
  intro p e s m args below meth c A Q ls hx hb hts hown hml hK hP hD hS hA hret hl
  have hown : s.vm.findClass RX5 = some m.cls := hown
  have k31 := hts (.methodLink RX5 31 Lib.Math.max.name) (List.mem_of_getElem? (i := 1) rfl)
  have ks31 := hts (.static Lib.Math.max.name) (List.mem_of_getElem? (i := 2) rfl)
  have kmath := hts (.initialized "java/lang/Math") (List.mem_of_getElem? (i := 3) rfl)
  have kc31 := hts (.code Lib.Math.max.name Lib.Math.max.code 2 (some .int)) (List.mem_of_getElem? (i := 4) rfl)
  refine lv_iconst (v := 1) hx hb dX5_daysReaching_0 (by decide) ?_
  refine lv_istore (lv' := [(5, .int (1 : Int32)), (0, .ref h0), (1, .ref g1), (2, .int p2), (3, .int p3), (4, .int p4)]) hx hb dX5_daysReaching_1 hl (by decide) rfl (fun ls hl => ?_)
  have L3 : ∀ (n : Nat) (x5_3 : Int32) (v_least_3 : Nat → Nat → Int32) (v_most_3 : Nat → Nat → Int32) (H : Heap) (locs : List Loc) (ls : Array Slot), f5_daysReaching_L3 N p2 p3 p4 w1_parts w1_rate w1_near n x5_3 v_least_3 v_most_3 = some (r, nv_least, nv_most) → va_P D vwCl ([(h0, .inr (5, [.ref h0_least, .ref h0_most])), (h0_least, .inl (cy 5, 41, gO 41 rh0_least)), (h0_most, .inl (cy 5, 41, gO 41 rh0_most)), (g1, .inr (0, [.int w1_parts, og1_1, og1_2, og1_3, og1_4, og1_5, og1_6, .ref g1_rate, .ref g1_near, og1_9, og1_10, og1_11, og1_12])), (g1_rate, .inl (cy 2, 7, .inl w1_rate)), (g1_near, .inl (cy 2, 7, .inl w1_near))] ++ (gW rh0_least 41 7 (cy 2) v_least_3 ++ gW rh0_most 41 7 (cy 2) v_most_3)) H → va_D A ([(h0, .inr (5, [.ref h0_least, .ref h0_most])), (h0_least, .inl (cy 5, 41, gO 41 rh0_least)), (h0_most, .inl (cy 5, 41, gO 41 rh0_most)), (g1, .inr (0, [.int w1_parts, og1_1, og1_2, og1_3, og1_4, og1_5, og1_6, .ref g1_rate, .ref g1_near, og1_9, og1_10, og1_11, og1_12])), (g1_rate, .inl (cy 2, 7, .inl w1_rate)), (g1_near, .inl (cy 2, 7, .inl w1_near))] ++ (gW rh0_least 41 7 (cy 2) v_least_3 ++ gW rh0_most 41 7 (cy 2) v_most_3)) → va_S A s.heap H locs → lv_has ls 6 [(0, .ref h0), (1, .ref g1), (2, .int p2), (3, .int p3), (4, .int p4), (5, .int x5_3)] → W p l e r5_daysReaching s m args below meth c H locs 0 0 Q (F0 m 3 ls []) := by
    intro n
    induction n with
    | zero =>
      intro x5_3 v_least_3 v_most_3 H locs ls hM
      exact absurd hM (by simp [f5_daysReaching_L3])
    | succ n ih =>
      intro x5_3 v_least_3 v_most_3 H locs ls hM hP hD hS hl
      rw [f5_daysReaching_L3] at hM
      refine lv_iload hx hb dX5_daysReaching_3 (lv_at hl 5 rfl) ?_
      refine lv_bipush (v := 40) hx hb dX5_daysReaching_5 (by decide) ?_
      refine lv_icmp_gt (tgt := 43) hx hb dX5_daysReaching_7 (by decide) (fun c7 => ?_) (fun c7 => ?_)
      · have hM := g_pos c7 hM
        refine lv_iconst (v := -1) hx hb dX5_daysReaching_43 (by decide) ?_
        obtain ⟨rfl, rfl, rfl⟩ := si3 hM
        exact hret _ _ _ _ _ dX5_daysReaching_44 rfl rfl hP hD hS
      · have hM := g_neg c7 hM
        refine lv_aload_n hx hb dX5_daysReaching_10 rfl (lv_at hl 0 rfl) ?_
        refine lv_aload_n hx hb dX5_daysReaching_11 rfl (lv_at hl 1 rfl) ?_
        refine lv_iload_n hx hb dX5_daysReaching_12 rfl (lv_at hl 3 rfl) ?_
        refine lv_iload hx hb dX5_daysReaching_13 (lv_at hl 5 rfl) ?_
        obtain ⟨v_least_15, v_most_15, hc15, hM⟩ := ob2_some hM
        refine cg_vv (As := [.ref g1, .int p3, .int x5_3]) (rest := []) (ci := 5) (q0 := 0) (wr := []) (ws2 := ([(h0, .inr (5, [.ref h0_least, .ref h0_most])), (h0_least, .inl (cy 5, 41, gO 41 rh0_least)), (h0_most, .inl (cy 5, 41, gO 41 rh0_most)), (g1, .inr (0, [.int w1_parts, og1_1, og1_2, og1_3, og1_4, og1_5, og1_6, .ref g1_rate, .ref g1_near, og1_9, og1_10, og1_11, og1_12])), (g1_rate, .inl (cy 2, 7, .inl w1_rate)), (g1_near, .inl (cy 2, 7, .inl w1_near))] ++ (gW rh0_least 41 7 (cy 2) v_least_15 ++ gW rh0_most 41 7 (cy 2) v_most_15))) hx hb hml hown hts (c5_layDay l D cy N rh0_least rh0_most h0 h0_least h0_most g1 g1_rate g1_near og1_1 og1_2 og1_3 og1_4 og1_5 og1_6 og1_9 og1_10 og1_11 og1_12 p3 x5_3 v_least_3 v_most_3 w1_parts w1_rate w1_near v_least_15 v_most_15 hc15) (cwV 3 hts gX5_daysReaching_X5_layDay rfl rfl rfl (by decide +kernel) ⟨Nat.le_of_ble_eq_true rfl, Nat.le_of_ble_eq_true rfl⟩) hK hP hD hS hA rfl rfl (pm_P (pm_x [0, 1, 2, 3, 4, 5] rfl rfl)) (pm_P (pm_x [0, 1, 2, 3, 4, 5] rfl rfl)).symm rfl rfl hl.1 (Nat.le_of_ble_eq_true rfl) dX5_daysReaching_15 ⟨Nat.zero_le _, Nat.zero_le _⟩ (fun H locs hP hD hS => ?_)
        refine lv_aload_n hx hb dX5_daysReaching_18 rfl (lv_at hl 0 rfl) ?_
        refine lv_iload hx hb dX5_daysReaching_19 (lv_at hl 5 rfl) ?_
        refine lv_iload_n hx hb dX5_daysReaching_21 rfl (lv_at hl 2 rfl) ?_
        obtain ⟨r22, hc22, hM⟩ := ob1_some hM
        refine cg_vi (As := [.int x5_3, .int p2]) (rest := []) (ci := 5) (q0 := 0) (wr := [(g1, .inr (0, [.int w1_parts, og1_1, og1_2, og1_3, og1_4, og1_5, og1_6, .ref g1_rate, .ref g1_near, og1_9, og1_10, og1_11, og1_12])), (g1_rate, .inl (cy 2, 7, .inl w1_rate)), (g1_near, .inl (cy 2, 7, .inl w1_near))]) (ws2 := ([(h0, .inr (5, [.ref h0_least, .ref h0_most])), (h0_least, .inl (cy 5, 41, gO 41 rh0_least)), (h0_most, .inl (cy 5, 41, gO 41 rh0_most)), (g1, .inr (0, [.int w1_parts, og1_1, og1_2, og1_3, og1_4, og1_5, og1_6, .ref g1_rate, .ref g1_near, og1_9, og1_10, og1_11, og1_12])), (g1_rate, .inl (cy 2, 7, .inl w1_rate)), (g1_near, .inl (cy 2, 7, .inl w1_near))] ++ (gW rh0_least 41 7 (cy 2) v_least_15 ++ gW rh0_most 41 7 (cy 2) v_most_15))) hx hb hml hown hts (c5_mostTime l D cy N rh0_least rh0_most h0 h0_least h0_most (.ref h0_least) x5_3 p2 v_least_15 v_most_15 r22 hc22) (cwV 2 hts gX5_daysReaching_X5_mostTime rfl rfl rfl (by decide +kernel) ⟨Nat.le_of_ble_eq_true rfl, Nat.le_of_ble_eq_true rfl⟩) hK hP hD hS hA rfl rfl (pm_P (pm_x [3, 4, 5, 0, 1, 2] rfl rfl)) (pm_P (pm_x [3, 4, 5, 0, 1, 2] rfl rfl)).symm rfl rfl hl.1 (Nat.le_of_ble_eq_true rfl) dX5_daysReaching_22 ⟨Nat.zero_le _, Nat.zero_le _⟩ (fun H locs hP hD hS => ?_)
        refine lv_iconst (v := 0) hx hb dX5_daysReaching_25 (by decide) ?_
        refine lv_iload hx hb dX5_daysReaching_26 (lv_at hl 4 rfl) ?_
        refine va_mmax hx hb (hml.trans hl.1.symm) hown k31 ks31 kmath kc31 (Nat.le_of_ble_eq_true rfl) (Nat.le_of_ble_eq_true rfl) (Nat.zero_le _) (Nat.zero_le _) dX5_daysReaching_28 ?_
        refine lv_icmp_lt (tgt := 37) hx hb dX5_daysReaching_31 (by decide) (fun c31 => ?_) (fun c31 => ?_)
        · have hM := g_pos c31 hM
          refine lv_iinc (v := x5_3 + (1 : Int32)) (lv' := [(5, .int (x5_3 + (1 : Int32))), (0, .ref h0), (1, .ref g1), (2, .int p2), (3, .int p3), (4, .int p4)]) hx hb dX5_daysReaching_37 hl (k := 5) rfl rfl (by decide) rfl (fun ls hl => ?_)
          refine lv_goto (tgt := 3) hx hb dX5_daysReaching_40 (by decide) ?_
          exact ih (x5_3 + (1 : Int32)) v_least_15 v_most_15 _ _ _ hM hP hD hS (lv_sub hl [1, 2, 3, 4, 5, 0] rfl)
        · have hM := g_neg c31 hM
          refine lv_iload hx hb dX5_daysReaching_34 (lv_at hl 5 rfl) ?_
          obtain ⟨rfl, rfl, rfl⟩ := si3 hM
          exact hret _ _ _ _ _ dX5_daysReaching_36 rfl rfl hP hD hS
  exact L3 N (1 : Int32) v_least v_most _ _ _ hM hP hD hS (lv_sub hl [1, 2, 3, 4, 5, 0] rfl)

-- ===== X5_firstReaching firstReaching (LCaveYears$Cave;III)I =====
abbrev r5_firstReaching : Room := { frames := 3, cells := 0, slots := 0, locals := 65 }
def f5_firstReaching_L3 (N : Nat) (p2 : Int32) (p3 : Int32) (p4 : Int32) (v_least : Nat → Nat → Int32) (v_most : Nat → Nat → Int32) (w1_parts : Int32) (w1_near : Nat → Int32) : Nat → Int32 → Option Int32
  | 0, _ => none
  | n + 1, x5_3 => if (7 : Int32) ≤ x5_3 then (some (-1 : Int32)) else (ob1 (f0_mayFollow N p2 x5_3 w1_parts w1_near) fun r14 => if r14 = (0 : Int32) then ((f5_firstReaching_L3 N p2 p3 p4 v_least v_most w1_parts w1_near n) (x5_3 + (1 : Int32))) else (ob1 (f5_mostTime N p3 x5_3 v_least v_most) fun r24 => if r24 < (if (0 : Int32) < p4 then p4 else (0 : Int32)) then ((f5_firstReaching_L3 N p2 p3 p4 v_least v_most w1_parts w1_near n) (x5_3 + (1 : Int32))) else (some x5_3)))
def f5_firstReaching (N : Nat) (p2 : Int32) (p3 : Int32) (p4 : Int32) (v_least : Nat → Nat → Int32) (v_most : Nat → Nat → Int32) (w1_parts : Int32) (w1_near : Nat → Int32) : Option Int32 :=
  f5_firstReaching_L3 N p2 p3 p4 v_least v_most w1_parts w1_near N (0 : Int32)
set_option maxHeartbeats 4000000 in
set_option maxRecDepth 100000 in
theorem c5_firstReaching (l : Launch) (D : va_G) (cy : Nat → ClassId) (N : Nat) (rh0_least : Nat → Nat) (rh0_most : Nat → Nat) (h0 h0_least h0_most g1 g1_near : Nat) (oh0_0 og1_1 og1_2 og1_3 og1_4 og1_5 og1_6 og1_7 og1_9 og1_10 og1_11 og1_12 : Value) (p2 : Int32) (p3 : Int32) (p4 : Int32) (v_least : Nat → Nat → Int32) (v_most : Nat → Nat → Int32) (w1_parts : Int32) (w1_near : Nat → Int32) (r : Int32) (hM : f5_firstReaching N p2 p3 p4 v_least v_most w1_parts w1_near = some r) (sz : Nat) : CTi l yX5_firstReaching wsX5_firstReaching r5_firstReaching [.ref h0, .ref g1, .int p2, .int p3, .int p4] D cy sz ([(h0, .inr (5, [oh0_0, .ref h0_most])), (h0_least, .inl (cy 5, 41, gO 41 rh0_least)), (h0_most, .inl (cy 5, 41, gO 41 rh0_most)), (g1, .inr (0, [.int w1_parts, og1_1, og1_2, og1_3, og1_4, og1_5, og1_6, og1_7, .ref g1_near, og1_9, og1_10, og1_11, og1_12])), (g1_near, .inl (cy 2, 7, .inl w1_near))] ++ (gW rh0_least 41 7 (cy 2) v_least ++ gW rh0_most 41 7 (cy 2) v_most)) ([(h0, .inr (5, [oh0_0, .ref h0_most])), (h0_least, .inl (cy 5, 41, gO 41 rh0_least)), (h0_most, .inl (cy 5, 41, gO 41 rh0_most)), (g1, .inr (0, [.int w1_parts, og1_1, og1_2, og1_3, og1_4, og1_5, og1_6, og1_7, .ref g1_near, og1_9, og1_10, og1_11, og1_12])), (g1_near, .inl (cy 2, 7, .inl w1_near))] ++ (gW rh0_least 41 7 (cy 2) v_least ++ gW rh0_most 41 7 (cy 2) v_most)) r := by
  unfold f5_firstReaching at hM
  refine ct_oi (cc := cX5_firstReaching) (maxL := 6) (ty := .int) (by decide +kernel) rfl (Nat.le_of_ble_eq_true rfl) (lv0 := [(0, .ref h0), (1, .ref g1), (2, .int p2), (3, .int p3), (4, .int p4)]) rfl ?_
  intro p e s m args below meth c A Q ls hx hb hts hown hml hK hP hD hS hA hret hl
  have hown : s.vm.findClass RX5 = some m.cls := hown
  have k31 := hts (.methodLink RX5 31 Lib.Math.max.name) (List.mem_of_getElem? (i := 1) rfl)
  have ks31 := hts (.static Lib.Math.max.name) (List.mem_of_getElem? (i := 2) rfl)
  have kmath := hts (.initialized "java/lang/Math") (List.mem_of_getElem? (i := 3) rfl)
  have kc31 := hts (.code Lib.Math.max.name Lib.Math.max.code 2 (some .int)) (List.mem_of_getElem? (i := 4) rfl)
  refine lv_iconst (v := 0) hx hb dX5_firstReaching_0 (by decide) ?_
  refine lv_istore (lv' := [(5, .int (0 : Int32)), (0, .ref h0), (1, .ref g1), (2, .int p2), (3, .int p3), (4, .int p4)]) hx hb dX5_firstReaching_1 hl (by decide) rfl (fun ls hl => ?_)
  have L3 : ∀ (n : Nat) (x5_3 : Int32) (H : Heap) (locs : List Loc) (ls : Array Slot), f5_firstReaching_L3 N p2 p3 p4 v_least v_most w1_parts w1_near n x5_3 = some r → va_P D vwCl ([(h0, .inr (5, [oh0_0, .ref h0_most])), (h0_least, .inl (cy 5, 41, gO 41 rh0_least)), (h0_most, .inl (cy 5, 41, gO 41 rh0_most)), (g1, .inr (0, [.int w1_parts, og1_1, og1_2, og1_3, og1_4, og1_5, og1_6, og1_7, .ref g1_near, og1_9, og1_10, og1_11, og1_12])), (g1_near, .inl (cy 2, 7, .inl w1_near))] ++ (gW rh0_least 41 7 (cy 2) v_least ++ gW rh0_most 41 7 (cy 2) v_most)) H → va_D A ([(h0, .inr (5, [oh0_0, .ref h0_most])), (h0_least, .inl (cy 5, 41, gO 41 rh0_least)), (h0_most, .inl (cy 5, 41, gO 41 rh0_most)), (g1, .inr (0, [.int w1_parts, og1_1, og1_2, og1_3, og1_4, og1_5, og1_6, og1_7, .ref g1_near, og1_9, og1_10, og1_11, og1_12])), (g1_near, .inl (cy 2, 7, .inl w1_near))] ++ (gW rh0_least 41 7 (cy 2) v_least ++ gW rh0_most 41 7 (cy 2) v_most)) → va_S A s.heap H locs → lv_has ls 6 [(0, .ref h0), (1, .ref g1), (2, .int p2), (3, .int p3), (4, .int p4), (5, .int x5_3)] → W p l e r5_firstReaching s m args below meth c H locs 0 0 Q (F0 m 3 ls []) := by
    intro n
    induction n with
    | zero =>
      intro x5_3 H locs ls hM
      exact absurd hM (by simp [f5_firstReaching_L3])
    | succ n ih =>
      intro x5_3 H locs ls hM hP hD hS hl
      rw [f5_firstReaching_L3] at hM
      refine lv_iload hx hb dX5_firstReaching_3 (lv_at hl 5 rfl) ?_
      refine lv_bipush (v := 7) hx hb dX5_firstReaching_5 (by decide) ?_
      refine lv_icmp_ge (tgt := 45) hx hb dX5_firstReaching_7 (by decide) (fun c7 => ?_) (fun c7 => ?_)
      · have hM := g_pos c7 hM
        refine lv_iconst (v := -1) hx hb dX5_firstReaching_45 (by decide) ?_
        obtain rfl := si1 hM
        exact hret _ _ _ _ _ dX5_firstReaching_46 rfl rfl hP hD hS
      · have hM := g_neg c7 hM
        refine lv_aload_n hx hb dX5_firstReaching_10 rfl (lv_at hl 1 rfl) ?_
        refine lv_iload_n hx hb dX5_firstReaching_11 rfl (lv_at hl 2 rfl) ?_
        refine lv_iload hx hb dX5_firstReaching_12 (lv_at hl 5 rfl) ?_
        obtain ⟨r14, hc14, hM⟩ := ob1_some hM
        refine cg_vi (As := [.int p2, .int x5_3]) (rest := []) (ci := 0) (q0 := 3) (wr := ([(h0, .inr (5, [oh0_0, .ref h0_most])), (h0_least, .inl (cy 5, 41, gO 41 rh0_least)), (h0_most, .inl (cy 5, 41, gO 41 rh0_most))] ++ (gW rh0_least 41 7 (cy 2) v_least ++ gW rh0_most 41 7 (cy 2) v_most))) (ws2 := ([(h0, .inr (5, [oh0_0, .ref h0_most])), (h0_least, .inl (cy 5, 41, gO 41 rh0_least)), (h0_most, .inl (cy 5, 41, gO 41 rh0_most)), (g1, .inr (0, [.int w1_parts, og1_1, og1_2, og1_3, og1_4, og1_5, og1_6, og1_7, .ref g1_near, og1_9, og1_10, og1_11, og1_12])), (g1_near, .inl (cy 2, 7, .inl w1_near))] ++ (gW rh0_least 41 7 (cy 2) v_least ++ gW rh0_most 41 7 (cy 2) v_most))) hx hb hml hown hts (c0_mayFollow l D cy N g1 g1_near og1_1 og1_2 og1_3 og1_4 og1_5 og1_6 og1_7 og1_9 og1_10 og1_11 og1_12 p2 x5_3 w1_parts w1_near r14 hc14) (cwV 2 hts gX5_firstReaching_X0_mayFollow rfl rfl rfl (by decide +kernel) ⟨Nat.le_of_ble_eq_true rfl, Nat.le_of_ble_eq_true rfl⟩) hK hP hD hS hA rfl rfl (pm_Q (pm_x [0, 1, 2, 3, 4] rfl rfl)) (pm_Q (pm_x [0, 1, 2, 3, 4] rfl rfl)).symm rfl rfl hl.1 (Nat.le_of_ble_eq_true rfl) dX5_firstReaching_14 ⟨Nat.zero_le _, Nat.zero_le _⟩ (fun H locs hP hD hS => ?_)
        refine lv_if_eq (tgt := 39) hx hb dX5_firstReaching_17 (by decide) (fun c17 => ?_) (fun c17 => ?_)
        · have hM := g_pos c17 hM
          refine lv_iinc (v := x5_3 + (1 : Int32)) (lv' := [(5, .int (x5_3 + (1 : Int32))), (0, .ref h0), (1, .ref g1), (2, .int p2), (3, .int p3), (4, .int p4)]) hx hb dX5_firstReaching_39 hl (k := 5) rfl rfl (by decide) rfl (fun ls hl => ?_)
          refine lv_goto (tgt := 3) hx hb dX5_firstReaching_42 (by decide) ?_
          exact ih (x5_3 + (1 : Int32)) _ _ _ hM hP hD hS (lv_sub hl [1, 2, 3, 4, 5, 0] rfl)
        · have hM := g_neg c17 hM
          refine lv_aload_n hx hb dX5_firstReaching_20 rfl (lv_at hl 0 rfl) ?_
          refine lv_iload_n hx hb dX5_firstReaching_21 rfl (lv_at hl 3 rfl) ?_
          refine lv_iload hx hb dX5_firstReaching_22 (lv_at hl 5 rfl) ?_
          obtain ⟨r24, hc24, hM⟩ := ob1_some hM
          refine cg_vi (As := [.int p3, .int x5_3]) (rest := []) (ci := 5) (q0 := 0) (wr := [(g1, .inr (0, [.int w1_parts, og1_1, og1_2, og1_3, og1_4, og1_5, og1_6, og1_7, .ref g1_near, og1_9, og1_10, og1_11, og1_12])), (g1_near, .inl (cy 2, 7, .inl w1_near))]) (ws2 := ([(h0, .inr (5, [oh0_0, .ref h0_most])), (h0_least, .inl (cy 5, 41, gO 41 rh0_least)), (h0_most, .inl (cy 5, 41, gO 41 rh0_most)), (g1, .inr (0, [.int w1_parts, og1_1, og1_2, og1_3, og1_4, og1_5, og1_6, og1_7, .ref g1_near, og1_9, og1_10, og1_11, og1_12])), (g1_near, .inl (cy 2, 7, .inl w1_near))] ++ (gW rh0_least 41 7 (cy 2) v_least ++ gW rh0_most 41 7 (cy 2) v_most))) hx hb hml hown hts (c5_mostTime l D cy N rh0_least rh0_most h0 h0_least h0_most oh0_0 p3 x5_3 v_least v_most r24 hc24) (cwV 2 hts gX5_firstReaching_X5_mostTime rfl rfl rfl (by decide +kernel) ⟨Nat.le_of_ble_eq_true rfl, Nat.le_of_ble_eq_true rfl⟩) hK hP hD hS hA rfl rfl (pm_P (pm_x [3, 4, 0, 1, 2] rfl rfl)) (pm_P (pm_x [3, 4, 0, 1, 2] rfl rfl)).symm rfl rfl hl.1 (Nat.le_of_ble_eq_true rfl) dX5_firstReaching_24 ⟨Nat.zero_le _, Nat.zero_le _⟩ (fun H locs hP hD hS => ?_)
          refine lv_iconst (v := 0) hx hb dX5_firstReaching_27 (by decide) ?_
          refine lv_iload hx hb dX5_firstReaching_28 (lv_at hl 4 rfl) ?_
          refine va_mmax hx hb (hml.trans hl.1.symm) hown k31 ks31 kmath kc31 (Nat.le_of_ble_eq_true rfl) (Nat.le_of_ble_eq_true rfl) (Nat.zero_le _) (Nat.zero_le _) dX5_firstReaching_30 ?_
          refine lv_icmp_lt (tgt := 39) hx hb dX5_firstReaching_33 (by decide) (fun c33 => ?_) (fun c33 => ?_)
          · have hM := g_pos c33 hM
            refine lv_iinc (v := x5_3 + (1 : Int32)) (lv' := [(5, .int (x5_3 + (1 : Int32))), (0, .ref h0), (1, .ref g1), (2, .int p2), (3, .int p3), (4, .int p4)]) hx hb dX5_firstReaching_39 hl (k := 5) rfl rfl (by decide) rfl (fun ls hl => ?_)
            refine lv_goto (tgt := 3) hx hb dX5_firstReaching_42 (by decide) ?_
            exact ih (x5_3 + (1 : Int32)) _ _ _ hM hP hD hS (lv_sub hl [1, 2, 3, 4, 5, 0] rfl)
          · have hM := g_neg c33 hM
            refine lv_iload hx hb dX5_firstReaching_36 (lv_at hl 5 rfl) ?_
            obtain rfl := si1 hM
            exact hret _ _ _ _ _ dX5_firstReaching_38 rfl rfl hP hD hS
  exact L3 N (0 : Int32) _ _ _ hM hP hD hS (lv_sub hl [1, 2, 3, 4, 5, 0] rfl)

-- ===== X5_partOfDay partOfDay (LCaveYears$Cave;IIII)I =====
abbrev r5_partOfDay : Room := { frames := 4, cells := 0, slots := 0, locals := 90 }
def f5_partOfDay_L9 (N : Nat) (p4 : Int32) (p5 : Int32) (v_least : Nat → Nat → Int32) (v_most : Nat → Nat → Int32) (w1_parts : Int32) (w1_rate : Nat → Int32) (w1_near : Nat → Int32) : Nat → Int32 → Int32 → Int32 → Option Int32
  | 0, _, _, _ => none
  | n + 1, x6_9, x7_9, x8_9 => if p5 ≤ x8_9 then (some x6_9) else (if (40 : Int32) ≤ x8_9 then (some x6_9) else (ob1 (f0_rateOf N x6_9 w1_parts w1_rate) fun r28 => ob1 (f5_firstReaching N x6_9 ((p4 - (1 : Int32)) - x8_9) (x7_9 - r28) v_least v_most w1_parts w1_near) fun r47 => (f5_partOfDay_L9 N p4 p5 v_least v_most w1_parts w1_rate w1_near n) r47 (x7_9 - r28) (x8_9 + (1 : Int32))))
def f5_partOfDay (N : Nat) (p2 : Int32) (p3 : Int32) (p4 : Int32) (p5 : Int32) (v_least : Nat → Nat → Int32) (v_most : Nat → Nat → Int32) (w1_parts : Int32) (w1_rate : Nat → Int32) (w1_near : Nat → Int32) : Option Int32 :=
  ob1 (f5_partOfDay_L9 N p4 p5 v_least v_most w1_parts w1_rate w1_near N p2 p3 (0 : Int32)) fun e6_9 => some e6_9
set_option maxHeartbeats 4000000 in
set_option maxRecDepth 100000 in
theorem c5_partOfDay (l : Launch) (D : va_G) (cy : Nat → ClassId) (N : Nat) (rh0_least : Nat → Nat) (rh0_most : Nat → Nat) (h0 h0_least h0_most g1 g1_rate g1_near : Nat) (oh0_0 og1_1 og1_2 og1_3 og1_4 og1_5 og1_6 og1_9 og1_10 og1_11 og1_12 : Value) (p2 : Int32) (p3 : Int32) (p4 : Int32) (p5 : Int32) (v_least : Nat → Nat → Int32) (v_most : Nat → Nat → Int32) (w1_parts : Int32) (w1_rate : Nat → Int32) (w1_near : Nat → Int32) (r : Int32) (hM : f5_partOfDay N p2 p3 p4 p5 v_least v_most w1_parts w1_rate w1_near = some r) (sz : Nat) : CTi l yX5_partOfDay wsX5_partOfDay r5_partOfDay [.ref h0, .ref g1, .int p2, .int p3, .int p4, .int p5] D cy sz ([(h0, .inr (5, [oh0_0, .ref h0_most])), (h0_least, .inl (cy 5, 41, gO 41 rh0_least)), (h0_most, .inl (cy 5, 41, gO 41 rh0_most)), (g1, .inr (0, [.int w1_parts, og1_1, og1_2, og1_3, og1_4, og1_5, og1_6, .ref g1_rate, .ref g1_near, og1_9, og1_10, og1_11, og1_12])), (g1_rate, .inl (cy 2, 7, .inl w1_rate)), (g1_near, .inl (cy 2, 7, .inl w1_near))] ++ (gW rh0_least 41 7 (cy 2) v_least ++ gW rh0_most 41 7 (cy 2) v_most)) ([(h0, .inr (5, [oh0_0, .ref h0_most])), (h0_least, .inl (cy 5, 41, gO 41 rh0_least)), (h0_most, .inl (cy 5, 41, gO 41 rh0_most)), (g1, .inr (0, [.int w1_parts, og1_1, og1_2, og1_3, og1_4, og1_5, og1_6, .ref g1_rate, .ref g1_near, og1_9, og1_10, og1_11, og1_12])), (g1_rate, .inl (cy 2, 7, .inl w1_rate)), (g1_near, .inl (cy 2, 7, .inl w1_near))] ++ (gW rh0_least 41 7 (cy 2) v_least ++ gW rh0_most 41 7 (cy 2) v_most)) r := by
  unfold f5_partOfDay at hM
  refine ct_oi (cc := cX5_partOfDay) (maxL := 9) (ty := .int) (by decide +kernel) rfl (Nat.le_of_ble_eq_true rfl) (lv0 := [(0, .ref h0), (1, .ref g1), (2, .int p2), (3, .int p3), (4, .int p4), (5, .int p5)]) rfl ?_
  intro p e s m args below meth c A Q ls hx hb hts hown hml hK hP hD hS hA hret hl
  have hown : s.vm.findClass RX5 = some m.cls := hown
  refine lv_iload_n hx hb dX5_partOfDay_0 rfl (lv_at hl 2 rfl) ?_
  refine lv_istore (lv' := [(6, .int p2), (0, .ref h0), (1, .ref g1), (2, .int p2), (3, .int p3), (4, .int p4), (5, .int p5)]) hx hb dX5_partOfDay_1 hl (by decide) rfl (fun ls hl => ?_)
  refine lv_iload_n hx hb dX5_partOfDay_3 rfl (lv_at hl 4 rfl) ?_
  refine lv_istore (lv' := [(7, .int p3), (6, .int p2), (0, .ref h0), (1, .ref g1), (2, .int p2), (3, .int p3), (4, .int p4), (5, .int p5)]) hx hb dX5_partOfDay_4 hl (by decide) rfl (fun ls hl => ?_)
  refine lv_iconst (v := 0) hx hb dX5_partOfDay_6 (by decide) ?_
  refine lv_istore (lv' := [(8, .int (0 : Int32)), (7, .int p3), (6, .int p2), (0, .ref h0), (1, .ref g1), (2, .int p2), (3, .int p3), (4, .int p4), (5, .int p5)]) hx hb dX5_partOfDay_7 hl (by decide) rfl (fun ls hl => ?_)
  have L9 : ∀ (n : Nat) (x6_9 : Int32) (x7_9 : Int32) (x8_9 : Int32) (e6_9 : Int32) (H : Heap) (locs : List Loc) (ls : Array Slot), f5_partOfDay_L9 N p4 p5 v_least v_most w1_parts w1_rate w1_near n x6_9 x7_9 x8_9 = some e6_9 → va_P D vwCl ([(h0, .inr (5, [oh0_0, .ref h0_most])), (h0_least, .inl (cy 5, 41, gO 41 rh0_least)), (h0_most, .inl (cy 5, 41, gO 41 rh0_most)), (g1, .inr (0, [.int w1_parts, og1_1, og1_2, og1_3, og1_4, og1_5, og1_6, .ref g1_rate, .ref g1_near, og1_9, og1_10, og1_11, og1_12])), (g1_rate, .inl (cy 2, 7, .inl w1_rate)), (g1_near, .inl (cy 2, 7, .inl w1_near))] ++ (gW rh0_least 41 7 (cy 2) v_least ++ gW rh0_most 41 7 (cy 2) v_most)) H → va_D A ([(h0, .inr (5, [oh0_0, .ref h0_most])), (h0_least, .inl (cy 5, 41, gO 41 rh0_least)), (h0_most, .inl (cy 5, 41, gO 41 rh0_most)), (g1, .inr (0, [.int w1_parts, og1_1, og1_2, og1_3, og1_4, og1_5, og1_6, .ref g1_rate, .ref g1_near, og1_9, og1_10, og1_11, og1_12])), (g1_rate, .inl (cy 2, 7, .inl w1_rate)), (g1_near, .inl (cy 2, 7, .inl w1_near))] ++ (gW rh0_least 41 7 (cy 2) v_least ++ gW rh0_most 41 7 (cy 2) v_most)) → va_S A s.heap H locs → lv_has ls 9 [(0, .ref h0), (1, .ref g1), (4, .int p4), (5, .int p5), (6, .int x6_9), (7, .int x7_9), (8, .int x8_9)] → (∀ (H : Heap) (locs : List Loc) (ls : Array Slot), va_P D vwCl ([(h0, .inr (5, [oh0_0, .ref h0_most])), (h0_least, .inl (cy 5, 41, gO 41 rh0_least)), (h0_most, .inl (cy 5, 41, gO 41 rh0_most)), (g1, .inr (0, [.int w1_parts, og1_1, og1_2, og1_3, og1_4, og1_5, og1_6, .ref g1_rate, .ref g1_near, og1_9, og1_10, og1_11, og1_12])), (g1_rate, .inl (cy 2, 7, .inl w1_rate)), (g1_near, .inl (cy 2, 7, .inl w1_near))] ++ (gW rh0_least 41 7 (cy 2) v_least ++ gW rh0_most 41 7 (cy 2) v_most)) H → va_D A ([(h0, .inr (5, [oh0_0, .ref h0_most])), (h0_least, .inl (cy 5, 41, gO 41 rh0_least)), (h0_most, .inl (cy 5, 41, gO 41 rh0_most)), (g1, .inr (0, [.int w1_parts, og1_1, og1_2, og1_3, og1_4, og1_5, og1_6, .ref g1_rate, .ref g1_near, og1_9, og1_10, og1_11, og1_12])), (g1_rate, .inl (cy 2, 7, .inl w1_rate)), (g1_near, .inl (cy 2, 7, .inl w1_near))] ++ (gW rh0_least 41 7 (cy 2) v_least ++ gW rh0_most 41 7 (cy 2) v_most)) → va_S A s.heap H locs → lv_has ls 9 [(6, .int e6_9)] → W p l e r5_partOfDay s m args below meth c H locs 0 0 Q (F0 m 58 ls [])) → W p l e r5_partOfDay s m args below meth c H locs 0 0 Q (F0 m 9 ls []) := by
    intro n
    induction n with
    | zero =>
      intro x6_9 x7_9 x8_9 e6_9 H locs ls hM
      exact absurd hM (by simp [f5_partOfDay_L9])
    | succ n ih =>
      intro x6_9 x7_9 x8_9 e6_9 H locs ls hM hP hD hS hl K
      rw [f5_partOfDay_L9] at hM
      refine lv_iload hx hb dX5_partOfDay_9 (lv_at hl 6 rfl) ?_
      refine lv_iload hx hb dX5_partOfDay_11 (lv_at hl 3 rfl) ?_
      refine lv_icmp_ge (tgt := 58) hx hb dX5_partOfDay_13 (by decide) (fun c13 => ?_) (fun c13 => ?_)
      · have hM := g_pos c13 hM
        obtain rfl := si1 hM
        exact K _ _ _ hP hD hS (lv_sub hl [4] rfl)
      · have hM := g_neg c13 hM
        refine lv_iload hx hb dX5_partOfDay_16 (lv_at hl 6 rfl) ?_
        refine lv_bipush (v := 40) hx hb dX5_partOfDay_18 (by decide) ?_
        refine lv_icmp_ge (tgt := 58) hx hb dX5_partOfDay_20 (by decide) (fun c20 => ?_) (fun c20 => ?_)
        · have hM := g_pos c20 hM
          obtain rfl := si1 hM
          exact K _ _ _ hP hD hS (lv_sub hl [4] rfl)
        · have hM := g_neg c20 hM
          refine lv_iload hx hb dX5_partOfDay_23 (lv_at hl 5 rfl) ?_
          refine lv_aload_n hx hb dX5_partOfDay_25 rfl (lv_at hl 1 rfl) ?_
          refine lv_iload hx hb dX5_partOfDay_26 (lv_at hl 4 rfl) ?_
          obtain ⟨r28, hc28, hM⟩ := ob1_some hM
          refine cg_vi (As := [.int x6_9]) (rest := [.int x7_9]) (ci := 0) (q0 := 3) (wr := ([(h0, .inr (5, [oh0_0, .ref h0_most])), (h0_least, .inl (cy 5, 41, gO 41 rh0_least)), (h0_most, .inl (cy 5, 41, gO 41 rh0_most)), (g1_near, .inl (cy 2, 7, .inl w1_near))] ++ (gW rh0_least 41 7 (cy 2) v_least ++ gW rh0_most 41 7 (cy 2) v_most))) (ws2 := ([(h0, .inr (5, [oh0_0, .ref h0_most])), (h0_least, .inl (cy 5, 41, gO 41 rh0_least)), (h0_most, .inl (cy 5, 41, gO 41 rh0_most)), (g1, .inr (0, [.int w1_parts, og1_1, og1_2, og1_3, og1_4, og1_5, og1_6, .ref g1_rate, .ref g1_near, og1_9, og1_10, og1_11, og1_12])), (g1_rate, .inl (cy 2, 7, .inl w1_rate)), (g1_near, .inl (cy 2, 7, .inl w1_near))] ++ (gW rh0_least 41 7 (cy 2) v_least ++ gW rh0_most 41 7 (cy 2) v_most))) hx hb hml hown hts (c0_rateOf l D cy N g1 g1_rate og1_1 og1_2 og1_3 og1_4 og1_5 og1_6 (.ref g1_near) og1_9 og1_10 og1_11 og1_12 x6_9 w1_parts w1_rate r28 hc28) (cwV 1 hts gX5_partOfDay_X0_rateOf rfl rfl rfl (by decide +kernel) ⟨Nat.le_of_ble_eq_true rfl, Nat.le_of_ble_eq_true rfl⟩) hK hP hD hS hA rfl rfl (pm_Q (pm_x [0, 1, 2, 5, 3, 4] rfl rfl)) (pm_Q (pm_x [0, 1, 2, 5, 3, 4] rfl rfl)).symm rfl rfl hl.1 (Nat.le_of_ble_eq_true rfl) dX5_partOfDay_28 ⟨Nat.zero_le _, Nat.zero_le _⟩ (fun H locs hP hD hS => ?_)
          refine lv_isub hx hb dX5_partOfDay_31 ?_
          refine lv_istore (lv' := [(7, .int (x7_9 - r28)), (0, .ref h0), (1, .ref g1), (4, .int p4), (5, .int p5), (6, .int x6_9), (8, .int x8_9)]) hx hb dX5_partOfDay_32 hl (by decide) rfl (fun ls hl => ?_)
          refine lv_aload_n hx hb dX5_partOfDay_34 rfl (lv_at hl 1 rfl) ?_
          refine lv_aload_n hx hb dX5_partOfDay_35 rfl (lv_at hl 2 rfl) ?_
          refine lv_iload hx hb dX5_partOfDay_36 (lv_at hl 5 rfl) ?_
          refine lv_iload hx hb dX5_partOfDay_38 (lv_at hl 3 rfl) ?_
          refine lv_iconst (v := 1) hx hb dX5_partOfDay_40 (by decide) ?_
          refine lv_isub hx hb dX5_partOfDay_41 ?_
          refine lv_iload hx hb dX5_partOfDay_42 (lv_at hl 6 rfl) ?_
          refine lv_isub hx hb dX5_partOfDay_44 ?_
          refine lv_iload hx hb dX5_partOfDay_45 (lv_at hl 0 rfl) ?_
          obtain ⟨r47, hc47, hM⟩ := ob1_some hM
          refine cg_vi (As := [.ref g1, .int x6_9, .int ((p4 - (1 : Int32)) - x8_9), .int (x7_9 - r28)]) (rest := []) (ci := 5) (q0 := 0) (wr := [(g1_rate, .inl (cy 2, 7, .inl w1_rate))]) (ws2 := ([(h0, .inr (5, [oh0_0, .ref h0_most])), (h0_least, .inl (cy 5, 41, gO 41 rh0_least)), (h0_most, .inl (cy 5, 41, gO 41 rh0_most)), (g1, .inr (0, [.int w1_parts, og1_1, og1_2, og1_3, og1_4, og1_5, og1_6, .ref g1_rate, .ref g1_near, og1_9, og1_10, og1_11, og1_12])), (g1_rate, .inl (cy 2, 7, .inl w1_rate)), (g1_near, .inl (cy 2, 7, .inl w1_near))] ++ (gW rh0_least 41 7 (cy 2) v_least ++ gW rh0_most 41 7 (cy 2) v_most))) hx hb hml hown hts (c5_firstReaching l D cy N rh0_least rh0_most h0 h0_least h0_most g1 g1_near oh0_0 og1_1 og1_2 og1_3 og1_4 og1_5 og1_6 (.ref g1_rate) og1_9 og1_10 og1_11 og1_12 x6_9 ((p4 - (1 : Int32)) - x8_9) (x7_9 - r28) v_least v_most w1_parts w1_near r47 hc47) (cwV 4 hts gX5_partOfDay_X5_firstReaching rfl rfl rfl (by decide +kernel) ⟨Nat.le_of_ble_eq_true rfl, Nat.le_of_ble_eq_true rfl⟩) hK hP hD hS hA rfl rfl (pm_P (pm_x [4, 0, 1, 2, 3, 5] rfl rfl)) (pm_P (pm_x [4, 0, 1, 2, 3, 5] rfl rfl)).symm rfl rfl hl.1 (Nat.le_of_ble_eq_true rfl) dX5_partOfDay_47 ⟨Nat.zero_le _, Nat.zero_le _⟩ (fun H locs hP hD hS => ?_)
          refine lv_istore (lv' := [(6, .int r47), (7, .int (x7_9 - r28)), (0, .ref h0), (1, .ref g1), (4, .int p4), (5, .int p5), (8, .int x8_9)]) hx hb dX5_partOfDay_50 hl (by decide) rfl (fun ls hl => ?_)
          refine lv_iinc (v := x8_9 + (1 : Int32)) (lv' := [(8, .int (x8_9 + (1 : Int32))), (6, .int r47), (7, .int (x7_9 - r28)), (0, .ref h0), (1, .ref g1), (4, .int p4), (5, .int p5)]) hx hb dX5_partOfDay_52 hl (k := 6) rfl rfl (by decide) rfl (fun ls hl => ?_)
          refine lv_goto (tgt := 9) hx hb dX5_partOfDay_55 (by decide) ?_
          exact ih r47 (x7_9 - r28) (x8_9 + (1 : Int32)) e6_9 _ _ _ hM hP hD hS (lv_sub hl [3, 4, 5, 6, 1, 2, 0] rfl) K
  obtain ⟨e6_9, hL9, hM⟩ := ob1_some hM
  refine L9 N p2 p3 (0 : Int32) e6_9 _ _ _ hL9 hP hD hS (lv_sub hl [3, 4, 7, 8, 2, 1, 0] rfl) ?_
  intro H locs ls hP hD hS hl
  refine lv_iload hx hb dX5_partOfDay_58 (lv_at hl 0 rfl) ?_
  obtain rfl := si1 hM
  exact hret _ _ _ _ _ dX5_partOfDay_60 rfl rfl hP hD hS

-- ===== X1_isRow isRow (II)Z =====
abbrev r1_isRow : Room := { frames := 0, cells := 0, slots := 0, locals := 0 }
def f1_isRow (N : Nat) (p1 : Int32) (p2 : Int32) : Option Int32 :=
  if p1 < (1 : Int32) then (some (0 : Int32)) else (if (40 : Int32) < p1 then (some (0 : Int32)) else (if p2 < (0 : Int32) then (some (0 : Int32)) else (if (7 : Int32) ≤ p2 then (some (0 : Int32)) else (some (1 : Int32)))))
set_option maxHeartbeats 4000000 in
set_option maxRecDepth 100000 in
theorem c1_isRow (l : Launch) (D : va_G) (cy : Nat → ClassId) (N : Nat) (p1 : Int32) (p2 : Int32) (r : Int32) (hM : f1_isRow N p1 p2 = some r) (sz : Nat) : CTi l yX1_isRow wsX1_isRow r1_isRow [.int p1, .int p2] D cy sz [] [] r := by
  unfold f1_isRow at hM
  refine ct_oi (cc := cX1_isRow) (maxL := 2) (ty := .boolean) (by decide +kernel) rfl (Nat.le_of_ble_eq_true rfl) (lv0 := [(0, .int p1), (1, .int p2)]) rfl ?_
  intro p e s m args below meth c A Q ls hx hb hts hown hml hK hP hD hS hA hret hl
  have hown : s.vm.findClass RX1 = some m.cls := hown
  refine lv_iload_n hx hb dX1_isRow_0 rfl (lv_at hl 0 rfl) ?_
  refine lv_iconst (v := 1) hx hb dX1_isRow_1 (by decide) ?_
  refine lv_icmp_lt (tgt := 25) hx hb dX1_isRow_2 (by decide) (fun c2 => ?_) (fun c2 => ?_)
  · have hM := g_pos c2 hM
    refine lv_iconst (v := 0) hx hb dX1_isRow_25 (by decide) ?_
    obtain rfl := si1 hM
    exact hret _ _ _ _ _ dX1_isRow_26 rfl rfl hP hD hS
  · have hM := g_neg c2 hM
    refine lv_iload_n hx hb dX1_isRow_5 rfl (lv_at hl 0 rfl) ?_
    refine lv_bipush (v := 40) hx hb dX1_isRow_6 (by decide) ?_
    refine lv_icmp_gt (tgt := 25) hx hb dX1_isRow_8 (by decide) (fun c8 => ?_) (fun c8 => ?_)
    · have hM := g_pos c8 hM
      refine lv_iconst (v := 0) hx hb dX1_isRow_25 (by decide) ?_
      obtain rfl := si1 hM
      exact hret _ _ _ _ _ dX1_isRow_26 rfl rfl hP hD hS
    · have hM := g_neg c8 hM
      refine lv_iload_n hx hb dX1_isRow_11 rfl (lv_at hl 1 rfl) ?_
      refine lv_if_lt (tgt := 25) hx hb dX1_isRow_12 (by decide) (fun c12 => ?_) (fun c12 => ?_)
      · have hM := g_pos c12 hM
        refine lv_iconst (v := 0) hx hb dX1_isRow_25 (by decide) ?_
        obtain rfl := si1 hM
        exact hret _ _ _ _ _ dX1_isRow_26 rfl rfl hP hD hS
      · have hM := g_neg c12 hM
        refine lv_iload_n hx hb dX1_isRow_15 rfl (lv_at hl 1 rfl) ?_
        refine lv_bipush (v := 7) hx hb dX1_isRow_16 (by decide) ?_
        refine lv_icmp_ge (tgt := 25) hx hb dX1_isRow_18 (by decide) (fun c18 => ?_) (fun c18 => ?_)
        · have hM := g_pos c18 hM
          refine lv_iconst (v := 0) hx hb dX1_isRow_25 (by decide) ?_
          obtain rfl := si1 hM
          exact hret _ _ _ _ _ dX1_isRow_26 rfl rfl hP hD hS
        · have hM := g_neg c18 hM
          refine lv_iconst (v := 1) hx hb dX1_isRow_21 (by decide) ?_
          refine lv_goto (tgt := 26) hx hb dX1_isRow_22 (by decide) ?_
          obtain rfl := si1 hM
          exact hret _ _ _ _ _ dX1_isRow_26 rfl rfl hP hD hS

-- ===== X1_canMake canMake (III)Z =====
abbrev r1_canMake : Room := { frames := 1, cells := 0, slots := 0, locals := 21 }
def f1_canMake (N : Nat) (p1 : Int32) (p2 : Int32) (p3 : Int32) (v_times : Nat → Nat → Int64) : Option Int32 :=
  ob1 (f1_isRow N p1 p2) fun r2 => if r2 = (0 : Int32) then (some (0 : Int32)) else (if p3 < (0 : Int32) then (some (0 : Int32)) else (if p3 ≤ (6000 : Int32) then (gi ((p1 * (7 : Int32)) + p2) 287 (gi (p3 / (64 : Int32)) 94 (if (lg_cmp (((((v_times ((p1 * (7 : Int32)) + p2).toNatClampNeg) (p3 / (64 : Int32)).toNatClampNeg).toUInt64 >>> ((p3 - p3 / (64 : Int32) * (64 : Int32)).toInt64.toUInt64 &&& Int64.toUInt64 63)).toInt64) &&& (1 : Int64)) (1 : Int64)) = (0 : Int32) then (some (1 : Int32)) else (some (0 : Int32))))) else (some (0 : Int32))))
set_option maxHeartbeats 4000000 in
set_option maxRecDepth 100000 in
theorem c1_canMake (l : Launch) (D : va_G) (cy : Nat → ClassId) (N : Nat) (rh0_times : Nat → Nat) (h0 h0_times : Nat) (oh0_1 : Value) (p1 : Int32) (p2 : Int32) (p3 : Int32) (v_times : Nat → Nat → Int64) (r : Int32) (hM : f1_canMake N p1 p2 p3 v_times = some r) (sz : Nat) : CTi l yX1_canMake wsX1_canMake r1_canMake [.ref h0, .int p1, .int p2, .int p3] D cy sz ([(h0, .inr (1, [.ref h0_times, oh0_1])), (h0_times, .inl (cy 6, 287, gO 287 rh0_times))] ++ (gWL rh0_times 287 94 (cy 3) v_times)) ([(h0, .inr (1, [.ref h0_times, oh0_1])), (h0_times, .inl (cy 6, 287, gO 287 rh0_times))] ++ (gWL rh0_times 287 94 (cy 3) v_times)) r := by
  unfold f1_canMake at hM
  refine ct_oi (cc := cX1_canMake) (maxL := 4) (ty := .boolean) (by decide +kernel) rfl (Nat.le_of_ble_eq_true rfl) (lv0 := [(0, .ref h0), (1, .int p1), (2, .int p2), (3, .int p3)]) rfl ?_
  intro p e s m args below meth c A Q ls hx hb hts hown hml hK hP hD hS hA hret hl
  have hown : s.vm.findClass RX1 = some m.cls := hown
  have k13 := hts (.fieldLink RX1 13 "CaveYears$ExactTimes" "times" "[[J") (List.mem_of_getElem? (i := 1) rfl)
  have iX1 := (fun w h => (List.mem_cons_of_mem _ (List.mem_append_right _ h)) : ∀ w ∈ wsX10, w ∈ wsX1_canMake)
  refine lv_iload_n hx hb dX1_canMake_0 rfl (lv_at hl 1 rfl) ?_
  refine lv_iload_n hx hb dX1_canMake_1 rfl (lv_at hl 2 rfl) ?_
  obtain ⟨r2, hc2, hM⟩ := ob1_some hM
  refine cg_si (As := [.int p1, .int p2]) (rest := []) (wr := ([(h0, .inr (1, [.ref h0_times, oh0_1])), (h0_times, .inl (cy 6, 287, gO 287 rh0_times))] ++ (gWL rh0_times 287 94 (cy 3) v_times))) (ws2 := ([(h0, .inr (1, [.ref h0_times, oh0_1])), (h0_times, .inl (cy 6, 287, gO 287 rh0_times))] ++ (gWL rh0_times 287 94 (cy 3) v_times))) hx hb hml hown hts (c1_isRow l D cy N p1 p2 r2 hc2) (va_cwS 2 hts gX1_canMake_X1_isRow rfl rfl rfl (by decide +kernel) ⟨Nat.le_of_ble_eq_true rfl, Nat.le_of_ble_eq_true rfl⟩) hK hP hD hS hA (pm_Q (pm_x [0, 1] rfl rfl)) (pm_Q (pm_x [0, 1] rfl rfl)).symm rfl rfl hl.1 (Nat.le_of_ble_eq_true rfl) dX1_canMake_2 ⟨Nat.zero_le _, Nat.zero_le _⟩ (fun H locs hP hD hS => ?_)
  refine lv_if_eq (tgt := 19) hx hb dX1_canMake_5 (by decide) (fun c5 => ?_) (fun c5 => ?_)
  · have hM := g_pos c5 hM
    refine lv_iconst (v := 0) hx hb dX1_canMake_19 (by decide) ?_
    obtain rfl := si1 hM
    exact hret _ _ _ _ _ dX1_canMake_20 rfl rfl hP hD hS
  · have hM := g_neg c5 hM
    refine lv_iload_n hx hb dX1_canMake_8 rfl (lv_at hl 3 rfl) ?_
    refine lv_if_lt (tgt := 19) hx hb dX1_canMake_9 (by decide) (fun c9 => ?_) (fun c9 => ?_)
    · have hM := g_pos c9 hM
      refine lv_iconst (v := 0) hx hb dX1_canMake_19 (by decide) ?_
      obtain rfl := si1 hM
      exact hret _ _ _ _ _ dX1_canMake_20 rfl rfl hP hD hS
    · have hM := g_neg c9 hM
      refine lv_iload_n hx hb dX1_canMake_12 rfl (lv_at hl 3 rfl) ?_
      refine lv_sipush (v := 6000) hx hb dX1_canMake_13 (by decide) ?_
      refine lv_icmp_le (tgt := 21) hx hb dX1_canMake_16 (by decide) (fun c16 => ?_) (fun c16 => ?_)
      · have hM := g_pos c16 hM
        refine lv_aload_n hx hb dX1_canMake_21 rfl (lv_at hl 0 rfl) ?_
        refine va_get (D := D) (ci := 1) (v := .ref h0_times) (C := RX1) (T := TX1) (N := 2) hx hb hts iX1 hown hK hP 0 rfl rfl 0 (by decide) k13 (fun _ h9 => h9) rfl dX1_canMake_22 ?_
        refine lv_iload_n hx hb dX1_canMake_25 rfl (lv_at hl 1 rfl) ?_
        refine lv_bipush (v := 7) hx hb dX1_canMake_26 (by decide) ?_
        refine lv_imul hx hb dX1_canMake_28 ?_
        refine lv_iload_n hx hb dX1_canMake_29 rfl (lv_at hl 2 rfl) ?_
        refine lv_iadd hx hb dX1_canMake_30 ?_
        obtain ⟨h31, hM⟩ := gi_some hM
        refine wv_aald hx hb hK hP 1 6 rfl rfl h31 dX1_canMake_31 ?_
        refine lv_iload_n hx hb dX1_canMake_32 rfl (lv_at hl 3 rfl) ?_
        refine lv_bipush (v := 64) hx hb dX1_canMake_33 (by decide) ?_
        refine lv_idiv hx hb dX1_canMake_35 (by decide) ?_
        obtain ⟨h36, hM⟩ := gi_some hM
        refine wv_lald hx hb hK hP 3 (gWL_rowS h31) rfl h36 dX1_canMake_36 ?_
        refine lv_iload_n hx hb dX1_canMake_37 rfl (lv_at hl 3 rfl) ?_
        refine lv_bipush (v := 64) hx hb dX1_canMake_38 (by decide) ?_
        refine lv_irem hx hb dX1_canMake_40 (by decide) ?_
        refine lv_lushr (v := (((v_times ((p1 * (7 : Int32)) + p2).toNatClampNeg) (p3 / (64 : Int32)).toNatClampNeg).toUInt64 >>> ((p3 - p3 / (64 : Int32) * (64 : Int32)).toInt64.toUInt64 &&& Int64.toUInt64 63)).toInt64) hx hb dX1_canMake_41 rfl ?_
        refine lv_lconst (v := 1) hx hb dX1_canMake_42 (by decide) ?_
        refine lv_land hx hb dX1_canMake_43 ?_
        refine lv_lconst (v := 1) hx hb dX1_canMake_44 (by decide) ?_
        refine W.lcmp hx hb dX1_canMake_45 ?_
        refine lv_if_ne (tgt := 53) hx hb dX1_canMake_46 (by decide) (fun c46 => ?_) (fun c46 => ?_)
        · have hM := g_neg c46 hM
          refine lv_iconst (v := 0) hx hb dX1_canMake_53 (by decide) ?_
          obtain rfl := si1 hM
          exact hret _ _ _ _ _ dX1_canMake_54 rfl rfl hP hD hS
        · have hM := g_pos c46 hM
          refine lv_iconst (v := 1) hx hb dX1_canMake_49 (by decide) ?_
          refine lv_goto (tgt := 54) hx hb dX1_canMake_50 (by decide) ?_
          obtain rfl := si1 hM
          exact hret _ _ _ _ _ dX1_canMake_54 rfl rfl hP hD hS
      · have hM := g_neg c16 hM
        refine lv_iconst (v := 0) hx hb dX1_canMake_19 (by decide) ?_
        obtain rfl := si1 hM
        exact hret _ _ _ _ _ dX1_canMake_20 rfl rfl hP hD hS

-- ===== X1_layRest layRest (LCaveYears$Cave;IIII)V =====
abbrev r1_layRest : Room := { frames := 3, cells := 0, slots := 0, locals := 65 }
def f1_layRest_L3 (N : Nat) (p5 : Int32) : Nat → Int32 → (Nat → Int64) → Option (Nat → Int64)
  | 0, _, _ => none
  | n + 1, x6_3, v_rest_3 => if p5 ≤ x6_3 then (some v_rest_3) else (if (94 : Int32) ≤ x6_3 then (some v_rest_3) else (gi x6_3 94 ((f1_layRest_L3 N p5 n) (x6_3 + (1 : Int32)) (vp_updL v_rest_3 x6_3.toNatClampNeg (0 : Int64)))))
def f1_layRest_L105 (N : Nat) (p3 : Int32) (p5 : Int32) (v_times : Nat → Nat → Int64) (x6_52 : Int32) : Nat → Int32 → (Nat → Int64) → Option (Nat → Int64)
  | 0, _, _ => none
  | n + 1, x8_105, v_rest_105 => if p5 ≤ x8_105 then (some v_rest_105) else (if (94 : Int32) ≤ x8_105 then (some v_rest_105) else (gi x8_105 94 (gi x8_105 94 (gi x8_105 94 ((f1_layRest_L105 N p3 p5 v_times x6_52 n) (x8_105 + (1 : Int32)) (vp_updL v_rest_105 x8_105.toNatClampNeg ((v_rest_105 x8_105.toNatClampNeg) ||| ((v_times (((p3 - (1 : Int32)) * (7 : Int32)) + x6_52).toNatClampNeg) x8_105.toNatClampNeg))))))))
def f1_layRest_L52 (N : Nat) (p3 : Int32) (p4 : Int32) (p5 : Int32) (v_times : Nat → Nat → Int64) (w1_parts : Int32) (w1_near : Nat → Int32) : Nat → Int32 → (Nat → Int64) → Option (Nat → Int64)
  | 0, _, _ => none
  | n + 1, x6_52, v_rest_52 => if (7 : Int32) ≤ x6_52 then (some v_rest_52) else (if p3 ≤ (1 : Int32) then ((f1_layRest_L52 N p3 p4 p5 v_times w1_parts w1_near n) (x6_52 + (1 : Int32)) v_rest_52) else (ob1 (f0_mayFollow N p4 x6_52 w1_parts w1_near) fun r69 => if r69 = (0 : Int32) then ((f1_layRest_L52 N p3 p4 p5 v_times w1_parts w1_near n) (x6_52 + (1 : Int32)) v_rest_52) else (ob1 (f1_isRow N (p3 - (1 : Int32)) x6_52) fun r80 => if r80 = (0 : Int32) then ((f1_layRest_L52 N p3 p4 p5 v_times w1_parts w1_near n) (x6_52 + (1 : Int32)) v_rest_52) else (gi (((p3 - (1 : Int32)) * (7 : Int32)) + x6_52) 287 (ob1 (f1_layRest_L105 N p3 p5 v_times x6_52 N (0 : Int32) v_rest_52) fun v_rest_e105 => (f1_layRest_L52 N p3 p4 p5 v_times w1_parts w1_near n) (x6_52 + (1 : Int32)) v_rest_e105)))))
def f1_layRest (N : Nat) (p2 : Int32) (p3 : Int32) (p4 : Int32) (p5 : Int32) (v_times : Nat → Nat → Int64) (v_rest : Nat → Int64) (w1_parts : Int32) (w1_near : Nat → Int32) : Option (Nat → Int64) :=
  ob1 (f1_layRest_L3 N p5 N (0 : Int32) v_rest) fun v_rest_e3 => if p3 = (1 : Int32) then (if p4 = p2 then (gi (0 : Int32) 94 (ob1 (f1_layRest_L52 N p3 p4 p5 v_times w1_parts w1_near N (0 : Int32) (vp_updL v_rest_e3 (0 : Int32).toNatClampNeg (1 : Int64))) fun v_rest_e52 => some v_rest_e52)) else (ob1 (f1_layRest_L52 N p3 p4 p5 v_times w1_parts w1_near N (0 : Int32) v_rest_e3) fun v_rest_e52 => some v_rest_e52)) else (ob1 (f1_layRest_L52 N p3 p4 p5 v_times w1_parts w1_near N (0 : Int32) v_rest_e3) fun v_rest_e52 => some v_rest_e52)
set_option maxHeartbeats 4000000 in
set_option maxRecDepth 100000 in
theorem c1_layRest (l : Launch) (D : va_G) (cy : Nat → ClassId) (N : Nat) (rh0_times : Nat → Nat) (h0 h0_times h0_rest g1 g1_near : Nat) (og1_1 og1_2 og1_3 og1_4 og1_5 og1_6 og1_7 og1_9 og1_10 og1_11 og1_12 : Value) (p2 : Int32) (p3 : Int32) (p4 : Int32) (p5 : Int32) (v_times : Nat → Nat → Int64) (v_rest : Nat → Int64) (w1_parts : Int32) (w1_near : Nat → Int32) (nv_rest : Nat → Int64) (hM : f1_layRest N p2 p3 p4 p5 v_times v_rest w1_parts w1_near = some nv_rest) (sz : Nat) : CTv l yX1_layRest wsX1_layRest r1_layRest [.ref h0, .ref g1, .int p2, .int p3, .int p4, .int p5] D cy sz ([(h0, .inr (1, [.ref h0_times, .ref h0_rest])), (h0_times, .inl (cy 6, 287, gO 287 rh0_times)), (h0_rest, .inl (cy 3, 94, .inr (.inl v_rest))), (g1, .inr (0, [.int w1_parts, og1_1, og1_2, og1_3, og1_4, og1_5, og1_6, og1_7, .ref g1_near, og1_9, og1_10, og1_11, og1_12])), (g1_near, .inl (cy 2, 7, .inl w1_near))] ++ (gWL rh0_times 287 94 (cy 3) v_times)) ([(h0, .inr (1, [.ref h0_times, .ref h0_rest])), (h0_times, .inl (cy 6, 287, gO 287 rh0_times)), (h0_rest, .inl (cy 3, 94, .inr (.inl nv_rest))), (g1, .inr (0, [.int w1_parts, og1_1, og1_2, og1_3, og1_4, og1_5, og1_6, og1_7, .ref g1_near, og1_9, og1_10, og1_11, og1_12])), (g1_near, .inl (cy 2, 7, .inl w1_near))] ++ (gWL rh0_times 287 94 (cy 3) v_times)) := by
  unfold f1_layRest at hM
  refine ct_ov (cc := cX1_layRest) (maxL := 9)  (by decide +kernel) rfl (Nat.le_of_ble_eq_true rfl) (lv0 := [(0, .ref h0), (1, .ref g1), (2, .int p2), (3, .int p3), (4, .int p4), (5, .int p5)]) rfl ?_
  intro p e s m args below meth c A Q ls hx hb hts hown hml hK hP hD hS hA hret hl
  have hown : s.vm.findClass RX1 = some m.cls := hown
  have k16 := hts (.fieldLink RX1 16 "CaveYears$ExactTimes" "rest" "[J") (List.mem_of_getElem? (i := 1) rfl)
  have iX1 := (fun w h => (List.mem_cons_of_mem _ (List.mem_append_left _ (List.mem_append_right _ h))) : ∀ w ∈ wsX10, w ∈ wsX1_layRest)
  have k13 := hts (.fieldLink RX1 13 "CaveYears$ExactTimes" "times" "[[J") (List.mem_of_getElem? (i := 2) rfl)
  refine lv_iconst (v := 0) hx hb dX1_layRest_0 (by decide) ?_
  refine lv_istore (lv' := [(6, .int (0 : Int32)), (0, .ref h0), (1, .ref g1), (2, .int p2), (3, .int p3), (4, .int p4), (5, .int p5)]) hx hb dX1_layRest_1 hl (by decide) rfl (fun ls hl => ?_)
  have L3 : ∀ (n : Nat) (x6_3 : Int32) (v_rest_3 : Nat → Int64) (v_rest_e3 : Nat → Int64) (H : Heap) (locs : List Loc) (ls : Array Slot), f1_layRest_L3 N p5 n x6_3 v_rest_3 = some v_rest_e3 → va_P D vwCl ([(h0, .inr (1, [.ref h0_times, .ref h0_rest])), (h0_times, .inl (cy 6, 287, gO 287 rh0_times)), (h0_rest, .inl (cy 3, 94, .inr (.inl v_rest_3))), (g1, .inr (0, [.int w1_parts, og1_1, og1_2, og1_3, og1_4, og1_5, og1_6, og1_7, .ref g1_near, og1_9, og1_10, og1_11, og1_12])), (g1_near, .inl (cy 2, 7, .inl w1_near))] ++ (gWL rh0_times 287 94 (cy 3) v_times)) H → va_D A ([(h0, .inr (1, [.ref h0_times, .ref h0_rest])), (h0_times, .inl (cy 6, 287, gO 287 rh0_times)), (h0_rest, .inl (cy 3, 94, .inr (.inl v_rest_3))), (g1, .inr (0, [.int w1_parts, og1_1, og1_2, og1_3, og1_4, og1_5, og1_6, og1_7, .ref g1_near, og1_9, og1_10, og1_11, og1_12])), (g1_near, .inl (cy 2, 7, .inl w1_near))] ++ (gWL rh0_times 287 94 (cy 3) v_times)) → va_S A s.heap H locs → lv_has ls 9 [(0, .ref h0), (1, .ref g1), (2, .int p2), (3, .int p3), (4, .int p4), (5, .int p5), (6, .int x6_3)] → (∀ (H : Heap) (locs : List Loc) (ls : Array Slot), va_P D vwCl ([(h0, .inr (1, [.ref h0_times, .ref h0_rest])), (h0_times, .inl (cy 6, 287, gO 287 rh0_times)), (h0_rest, .inl (cy 3, 94, .inr (.inl v_rest_e3))), (g1, .inr (0, [.int w1_parts, og1_1, og1_2, og1_3, og1_4, og1_5, og1_6, og1_7, .ref g1_near, og1_9, og1_10, og1_11, og1_12])), (g1_near, .inl (cy 2, 7, .inl w1_near))] ++ (gWL rh0_times 287 94 (cy 3) v_times)) H → va_D A ([(h0, .inr (1, [.ref h0_times, .ref h0_rest])), (h0_times, .inl (cy 6, 287, gO 287 rh0_times)), (h0_rest, .inl (cy 3, 94, .inr (.inl v_rest_e3))), (g1, .inr (0, [.int w1_parts, og1_1, og1_2, og1_3, og1_4, og1_5, og1_6, og1_7, .ref g1_near, og1_9, og1_10, og1_11, og1_12])), (g1_near, .inl (cy 2, 7, .inl w1_near))] ++ (gWL rh0_times 287 94 (cy 3) v_times)) → va_S A s.heap H locs → lv_has ls 9 [(0, .ref h0), (1, .ref g1), (2, .int p2), (3, .int p3), (4, .int p4), (5, .int p5)] → W p l e r1_layRest s m args below meth c H locs 0 0 Q (F0 m 31 ls [])) → W p l e r1_layRest s m args below meth c H locs 0 0 Q (F0 m 3 ls []) := by
    intro n
    induction n with
    | zero =>
      intro x6_3 v_rest_3 v_rest_e3 H locs ls hM
      exact absurd hM (by simp [f1_layRest_L3])
    | succ n ih =>
      intro x6_3 v_rest_3 v_rest_e3 H locs ls hM hP hD hS hl K
      rw [f1_layRest_L3] at hM
      refine lv_iload hx hb dX1_layRest_3 (lv_at hl 6 rfl) ?_
      refine lv_iload hx hb dX1_layRest_5 (lv_at hl 5 rfl) ?_
      refine lv_icmp_ge (tgt := 31) hx hb dX1_layRest_7 (by decide) (fun c7 => ?_) (fun c7 => ?_)
      · have hM := g_pos c7 hM
        obtain rfl := si1 hM
        exact K _ _ _ hP hD hS (lv_sub hl [0, 1, 2, 3, 4, 5] rfl)
      · have hM := g_neg c7 hM
        refine lv_iload hx hb dX1_layRest_10 (lv_at hl 6 rfl) ?_
        refine lv_bipush (v := 94) hx hb dX1_layRest_12 (by decide) ?_
        refine lv_icmp_ge (tgt := 31) hx hb dX1_layRest_14 (by decide) (fun c14 => ?_) (fun c14 => ?_)
        · have hM := g_pos c14 hM
          obtain rfl := si1 hM
          exact K _ _ _ hP hD hS (lv_sub hl [0, 1, 2, 3, 4, 5] rfl)
        · have hM := g_neg c14 hM
          refine lv_aload_n hx hb dX1_layRest_17 rfl (lv_at hl 0 rfl) ?_
          refine va_get (D := D) (ci := 1) (v := .ref h0_rest) (C := RX1) (T := TX1) (N := 2) hx hb hts iX1 hown hK hP 0 rfl rfl 1 (by decide) k16 (fun _ h9 => h9) rfl dX1_layRest_18 ?_
          refine lv_iload hx hb dX1_layRest_21 (lv_at hl 6 rfl) ?_
          refine lv_lconst (v := 0) hx hb dX1_layRest_23 (by decide) ?_
          obtain ⟨h24, hM⟩ := gi_some hM
          refine va_last hx hb hK hP hD hS 2 3 rfl rfl h24 dX1_layRest_24 (fun H locs hP hD hS => ?_)
          have hP : va_P D vwCl ([(h0, .inr (1, [.ref h0_times, .ref h0_rest])), (h0_times, .inl (cy 6, 287, gO 287 rh0_times)), (h0_rest, .inl (cy 3, 94, .inr (.inl (vp_updL v_rest_3 x6_3.toNatClampNeg (0 : Int64))))), (g1, .inr (0, [.int w1_parts, og1_1, og1_2, og1_3, og1_4, og1_5, og1_6, og1_7, .ref g1_near, og1_9, og1_10, og1_11, og1_12])), (g1_near, .inl (cy 2, 7, .inl w1_near))] ++ (gWL rh0_times 287 94 (cy 3) v_times)) H := hP
          have hD : va_D A ([(h0, .inr (1, [.ref h0_times, .ref h0_rest])), (h0_times, .inl (cy 6, 287, gO 287 rh0_times)), (h0_rest, .inl (cy 3, 94, .inr (.inl (vp_updL v_rest_3 x6_3.toNatClampNeg (0 : Int64))))), (g1, .inr (0, [.int w1_parts, og1_1, og1_2, og1_3, og1_4, og1_5, og1_6, og1_7, .ref g1_near, og1_9, og1_10, og1_11, og1_12])), (g1_near, .inl (cy 2, 7, .inl w1_near))] ++ (gWL rh0_times 287 94 (cy 3) v_times)) := hD
          refine lv_iinc (v := x6_3 + (1 : Int32)) (lv' := [(6, .int (x6_3 + (1 : Int32))), (0, .ref h0), (1, .ref g1), (2, .int p2), (3, .int p3), (4, .int p4), (5, .int p5)]) hx hb dX1_layRest_25 hl (k := 6) rfl rfl (by decide) rfl (fun ls hl => ?_)
          refine lv_goto (tgt := 3) hx hb dX1_layRest_28 (by decide) ?_
          exact ih (x6_3 + (1 : Int32)) (vp_updL v_rest_3 x6_3.toNatClampNeg (0 : Int64)) v_rest_e3 _ _ _ hM hP hD hS (lv_sub hl [1, 2, 3, 4, 5, 6, 0] rfl) K
  obtain ⟨v_rest_e3, hL3, hM⟩ := ob1_some hM
  refine L3 N (0 : Int32) v_rest v_rest_e3 _ _ _ hL3 hP hD hS (lv_sub hl [1, 2, 3, 4, 5, 6, 0] rfl) ?_
  intro H locs ls hP hD hS hl
  refine lv_iload_n hx hb dX1_layRest_31 rfl (lv_at hl 3 rfl) ?_
  refine lv_iconst (v := 1) hx hb dX1_layRest_32 (by decide) ?_
  refine lv_icmp_ne (tgt := 49) hx hb dX1_layRest_33 (by decide) (fun c33 => ?_) (fun c33 => ?_)
  · have hM := g_neg c33 hM
    refine lv_iconst (v := 0) hx hb dX1_layRest_49 (by decide) ?_
    refine lv_istore (lv' := [(6, .int (0 : Int32)), (0, .ref h0), (1, .ref g1), (2, .int p2), (3, .int p3), (4, .int p4), (5, .int p5)]) hx hb dX1_layRest_50 hl (by decide) rfl (fun ls hl => ?_)
    have L52 : ∀ (n : Nat) (x6_52 : Int32) (v_rest_52 : Nat → Int64) (v_rest_e52 : Nat → Int64) (H : Heap) (locs : List Loc) (ls : Array Slot), f1_layRest_L52 N p3 p4 p5 v_times w1_parts w1_near n x6_52 v_rest_52 = some v_rest_e52 → va_P D vwCl ([(h0, .inr (1, [.ref h0_times, .ref h0_rest])), (h0_times, .inl (cy 6, 287, gO 287 rh0_times)), (h0_rest, .inl (cy 3, 94, .inr (.inl v_rest_52))), (g1, .inr (0, [.int w1_parts, og1_1, og1_2, og1_3, og1_4, og1_5, og1_6, og1_7, .ref g1_near, og1_9, og1_10, og1_11, og1_12])), (g1_near, .inl (cy 2, 7, .inl w1_near))] ++ (gWL rh0_times 287 94 (cy 3) v_times)) H → va_D A ([(h0, .inr (1, [.ref h0_times, .ref h0_rest])), (h0_times, .inl (cy 6, 287, gO 287 rh0_times)), (h0_rest, .inl (cy 3, 94, .inr (.inl v_rest_52))), (g1, .inr (0, [.int w1_parts, og1_1, og1_2, og1_3, og1_4, og1_5, og1_6, og1_7, .ref g1_near, og1_9, og1_10, og1_11, og1_12])), (g1_near, .inl (cy 2, 7, .inl w1_near))] ++ (gWL rh0_times 287 94 (cy 3) v_times)) → va_S A s.heap H locs → lv_has ls 9 [(0, .ref h0), (1, .ref g1), (3, .int p3), (4, .int p4), (5, .int p5), (6, .int x6_52)] → (∀ (H : Heap) (locs : List Loc) (ls : Array Slot), va_P D vwCl ([(h0, .inr (1, [.ref h0_times, .ref h0_rest])), (h0_times, .inl (cy 6, 287, gO 287 rh0_times)), (h0_rest, .inl (cy 3, 94, .inr (.inl v_rest_e52))), (g1, .inr (0, [.int w1_parts, og1_1, og1_2, og1_3, og1_4, og1_5, og1_6, og1_7, .ref g1_near, og1_9, og1_10, og1_11, og1_12])), (g1_near, .inl (cy 2, 7, .inl w1_near))] ++ (gWL rh0_times 287 94 (cy 3) v_times)) H → va_D A ([(h0, .inr (1, [.ref h0_times, .ref h0_rest])), (h0_times, .inl (cy 6, 287, gO 287 rh0_times)), (h0_rest, .inl (cy 3, 94, .inr (.inl v_rest_e52))), (g1, .inr (0, [.int w1_parts, og1_1, og1_2, og1_3, og1_4, og1_5, og1_6, og1_7, .ref g1_near, og1_9, og1_10, og1_11, og1_12])), (g1_near, .inl (cy 2, 7, .inl w1_near))] ++ (gWL rh0_times 287 94 (cy 3) v_times)) → va_S A s.heap H locs → lv_has ls 9 [] → W p l e r1_layRest s m args below meth c H locs 0 0 Q (F0 m 146 ls [])) → W p l e r1_layRest s m args below meth c H locs 0 0 Q (F0 m 52 ls []) := by
      intro n
      induction n with
      | zero =>
        intro x6_52 v_rest_52 v_rest_e52 H locs ls hM
        exact absurd hM (by simp [f1_layRest_L52])
      | succ n ih =>
        intro x6_52 v_rest_52 v_rest_e52 H locs ls hM hP hD hS hl K
        rw [f1_layRest_L52] at hM
        refine lv_iload hx hb dX1_layRest_52 (lv_at hl 5 rfl) ?_
        refine lv_bipush (v := 7) hx hb dX1_layRest_54 (by decide) ?_
        refine lv_icmp_ge (tgt := 146) hx hb dX1_layRest_56 (by decide) (fun c56 => ?_) (fun c56 => ?_)
        · have hM := g_pos c56 hM
          obtain rfl := si1 hM
          exact K _ _ _ hP hD hS (lv_sub hl [] rfl)
        · have hM := g_neg c56 hM
          refine lv_iload_n hx hb dX1_layRest_59 rfl (lv_at hl 2 rfl) ?_
          refine lv_iconst (v := 1) hx hb dX1_layRest_60 (by decide) ?_
          refine lv_icmp_le (tgt := 140) hx hb dX1_layRest_61 (by decide) (fun c61 => ?_) (fun c61 => ?_)
          · have hM := g_pos c61 hM
            refine lv_iinc (v := x6_52 + (1 : Int32)) (lv' := [(6, .int (x6_52 + (1 : Int32))), (0, .ref h0), (1, .ref g1), (3, .int p3), (4, .int p4), (5, .int p5)]) hx hb dX1_layRest_140 hl (k := 5) rfl rfl (by decide) rfl (fun ls hl => ?_)
            refine lv_goto (tgt := 52) hx hb dX1_layRest_143 (by decide) ?_
            exact ih (x6_52 + (1 : Int32)) v_rest_52 v_rest_e52 _ _ _ hM hP hD hS (lv_sub hl [1, 2, 3, 4, 5, 0] rfl) K
          · have hM := g_neg c61 hM
            refine lv_aload_n hx hb dX1_layRest_64 rfl (lv_at hl 1 rfl) ?_
            refine lv_iload hx hb dX1_layRest_65 (lv_at hl 3 rfl) ?_
            refine lv_iload hx hb dX1_layRest_67 (lv_at hl 5 rfl) ?_
            obtain ⟨r69, hc69, hM⟩ := ob1_some hM
            refine cg_vi (As := [.int p4, .int x6_52]) (rest := []) (ci := 0) (q0 := 3) (wr := ([(h0, .inr (1, [.ref h0_times, .ref h0_rest])), (h0_times, .inl (cy 6, 287, gO 287 rh0_times)), (h0_rest, .inl (cy 3, 94, .inr (.inl v_rest_52)))] ++ (gWL rh0_times 287 94 (cy 3) v_times))) (ws2 := ([(h0, .inr (1, [.ref h0_times, .ref h0_rest])), (h0_times, .inl (cy 6, 287, gO 287 rh0_times)), (h0_rest, .inl (cy 3, 94, .inr (.inl v_rest_52))), (g1, .inr (0, [.int w1_parts, og1_1, og1_2, og1_3, og1_4, og1_5, og1_6, og1_7, .ref g1_near, og1_9, og1_10, og1_11, og1_12])), (g1_near, .inl (cy 2, 7, .inl w1_near))] ++ (gWL rh0_times 287 94 (cy 3) v_times))) hx hb hml hown hts (c0_mayFollow l D cy N g1 g1_near og1_1 og1_2 og1_3 og1_4 og1_5 og1_6 og1_7 og1_9 og1_10 og1_11 og1_12 p4 x6_52 w1_parts w1_near r69 hc69) (cwV 2 hts gX1_layRest_X0_mayFollow rfl rfl rfl (by decide +kernel) ⟨Nat.le_of_ble_eq_true rfl, Nat.le_of_ble_eq_true rfl⟩) hK hP hD hS hA rfl rfl (pm_Q (pm_x [0, 1, 2, 3, 4] rfl rfl)) (pm_Q (pm_x [0, 1, 2, 3, 4] rfl rfl)).symm rfl rfl hl.1 (Nat.le_of_ble_eq_true rfl) dX1_layRest_69 ⟨Nat.zero_le _, Nat.zero_le _⟩ (fun H locs hP hD hS => ?_)
            refine lv_if_eq (tgt := 140) hx hb dX1_layRest_72 (by decide) (fun c72 => ?_) (fun c72 => ?_)
            · have hM := g_pos c72 hM
              refine lv_iinc (v := x6_52 + (1 : Int32)) (lv' := [(6, .int (x6_52 + (1 : Int32))), (0, .ref h0), (1, .ref g1), (3, .int p3), (4, .int p4), (5, .int p5)]) hx hb dX1_layRest_140 hl (k := 5) rfl rfl (by decide) rfl (fun ls hl => ?_)
              refine lv_goto (tgt := 52) hx hb dX1_layRest_143 (by decide) ?_
              exact ih (x6_52 + (1 : Int32)) v_rest_52 v_rest_e52 _ _ _ hM hP hD hS (lv_sub hl [1, 2, 3, 4, 5, 0] rfl) K
            · have hM := g_neg c72 hM
              refine lv_iload_n hx hb dX1_layRest_75 rfl (lv_at hl 2 rfl) ?_
              refine lv_iconst (v := 1) hx hb dX1_layRest_76 (by decide) ?_
              refine lv_isub hx hb dX1_layRest_77 ?_
              refine lv_iload hx hb dX1_layRest_78 (lv_at hl 5 rfl) ?_
              obtain ⟨r80, hc80, hM⟩ := ob1_some hM
              refine cg_si (As := [.int (p3 - (1 : Int32)), .int x6_52]) (rest := []) (wr := ([(h0, .inr (1, [.ref h0_times, .ref h0_rest])), (h0_times, .inl (cy 6, 287, gO 287 rh0_times)), (h0_rest, .inl (cy 3, 94, .inr (.inl v_rest_52))), (g1, .inr (0, [.int w1_parts, og1_1, og1_2, og1_3, og1_4, og1_5, og1_6, og1_7, .ref g1_near, og1_9, og1_10, og1_11, og1_12])), (g1_near, .inl (cy 2, 7, .inl w1_near))] ++ (gWL rh0_times 287 94 (cy 3) v_times))) (ws2 := ([(h0, .inr (1, [.ref h0_times, .ref h0_rest])), (h0_times, .inl (cy 6, 287, gO 287 rh0_times)), (h0_rest, .inl (cy 3, 94, .inr (.inl v_rest_52))), (g1, .inr (0, [.int w1_parts, og1_1, og1_2, og1_3, og1_4, og1_5, og1_6, og1_7, .ref g1_near, og1_9, og1_10, og1_11, og1_12])), (g1_near, .inl (cy 2, 7, .inl w1_near))] ++ (gWL rh0_times 287 94 (cy 3) v_times))) hx hb hml hown hts (c1_isRow l D cy N (p3 - (1 : Int32)) x6_52 r80 hc80) (va_cwS 2 hts gX1_layRest_X1_isRow rfl rfl rfl (by decide +kernel) ⟨Nat.le_of_ble_eq_true rfl, Nat.le_of_ble_eq_true rfl⟩) hK hP hD hS hA (pm_Q (pm_x [0, 1, 2, 3, 4] rfl rfl)) (pm_Q (pm_x [0, 1, 2, 3, 4] rfl rfl)).symm rfl rfl hl.1 (Nat.le_of_ble_eq_true rfl) dX1_layRest_80 ⟨Nat.zero_le _, Nat.zero_le _⟩ (fun H locs hP hD hS => ?_)
              refine lv_if_eq (tgt := 140) hx hb dX1_layRest_83 (by decide) (fun c83 => ?_) (fun c83 => ?_)
              · have hM := g_pos c83 hM
                refine lv_iinc (v := x6_52 + (1 : Int32)) (lv' := [(6, .int (x6_52 + (1 : Int32))), (0, .ref h0), (1, .ref g1), (3, .int p3), (4, .int p4), (5, .int p5)]) hx hb dX1_layRest_140 hl (k := 5) rfl rfl (by decide) rfl (fun ls hl => ?_)
                refine lv_goto (tgt := 52) hx hb dX1_layRest_143 (by decide) ?_
                exact ih (x6_52 + (1 : Int32)) v_rest_52 v_rest_e52 _ _ _ hM hP hD hS (lv_sub hl [1, 2, 3, 4, 5, 0] rfl) K
              · have hM := g_neg c83 hM
                refine lv_aload_n hx hb dX1_layRest_86 rfl (lv_at hl 0 rfl) ?_
                refine va_get (D := D) (ci := 1) (v := .ref h0_times) (C := RX1) (T := TX1) (N := 2) hx hb hts iX1 hown hK hP 0 rfl rfl 0 (by decide) k13 (fun _ h9 => h9) rfl dX1_layRest_87 ?_
                refine lv_iload_n hx hb dX1_layRest_90 rfl (lv_at hl 2 rfl) ?_
                refine lv_iconst (v := 1) hx hb dX1_layRest_91 (by decide) ?_
                refine lv_isub hx hb dX1_layRest_92 ?_
                refine lv_bipush (v := 7) hx hb dX1_layRest_93 (by decide) ?_
                refine lv_imul hx hb dX1_layRest_95 ?_
                refine lv_iload hx hb dX1_layRest_96 (lv_at hl 5 rfl) ?_
                refine lv_iadd hx hb dX1_layRest_98 ?_
                obtain ⟨h99, hM⟩ := gi_some hM
                refine wv_aald hx hb hK hP 1 6 rfl rfl h99 dX1_layRest_99 ?_
                refine lv_astore (lv' := [(7, .ref (rh0_times (((p3 - (1 : Int32)) * (7 : Int32)) + x6_52).toNatClampNeg)), (0, .ref h0), (1, .ref g1), (3, .int p3), (4, .int p4), (5, .int p5), (6, .int x6_52)]) hx hb dX1_layRest_100 hl (by decide) rfl (fun ls hl => ?_)
                refine lv_iconst (v := 0) hx hb dX1_layRest_102 (by decide) ?_
                refine lv_istore (lv' := [(8, .int (0 : Int32)), (7, .ref (rh0_times (((p3 - (1 : Int32)) * (7 : Int32)) + x6_52).toNatClampNeg)), (0, .ref h0), (1, .ref g1), (3, .int p3), (4, .int p4), (5, .int p5), (6, .int x6_52)]) hx hb dX1_layRest_103 hl (by decide) rfl (fun ls hl => ?_)
                have L105 : ∀ (n : Nat) (x8_105 : Int32) (v_rest_105 : Nat → Int64) (v_rest_e105 : Nat → Int64) (H : Heap) (locs : List Loc) (ls : Array Slot), f1_layRest_L105 N p3 p5 v_times x6_52 n x8_105 v_rest_105 = some v_rest_e105 → va_P D vwCl ([(h0, .inr (1, [.ref h0_times, .ref h0_rest])), (h0_times, .inl (cy 6, 287, gO 287 rh0_times)), (h0_rest, .inl (cy 3, 94, .inr (.inl v_rest_105))), (g1, .inr (0, [.int w1_parts, og1_1, og1_2, og1_3, og1_4, og1_5, og1_6, og1_7, .ref g1_near, og1_9, og1_10, og1_11, og1_12])), (g1_near, .inl (cy 2, 7, .inl w1_near))] ++ (gWL rh0_times 287 94 (cy 3) v_times)) H → va_D A ([(h0, .inr (1, [.ref h0_times, .ref h0_rest])), (h0_times, .inl (cy 6, 287, gO 287 rh0_times)), (h0_rest, .inl (cy 3, 94, .inr (.inl v_rest_105))), (g1, .inr (0, [.int w1_parts, og1_1, og1_2, og1_3, og1_4, og1_5, og1_6, og1_7, .ref g1_near, og1_9, og1_10, og1_11, og1_12])), (g1_near, .inl (cy 2, 7, .inl w1_near))] ++ (gWL rh0_times 287 94 (cy 3) v_times)) → va_S A s.heap H locs → lv_has ls 9 [(0, .ref h0), (1, .ref g1), (3, .int p3), (4, .int p4), (5, .int p5), (6, .int x6_52), (7, .ref (rh0_times (((p3 - (1 : Int32)) * (7 : Int32)) + x6_52).toNatClampNeg)), (8, .int x8_105)] → (∀ (H : Heap) (locs : List Loc) (ls : Array Slot), va_P D vwCl ([(h0, .inr (1, [.ref h0_times, .ref h0_rest])), (h0_times, .inl (cy 6, 287, gO 287 rh0_times)), (h0_rest, .inl (cy 3, 94, .inr (.inl v_rest_e105))), (g1, .inr (0, [.int w1_parts, og1_1, og1_2, og1_3, og1_4, og1_5, og1_6, og1_7, .ref g1_near, og1_9, og1_10, og1_11, og1_12])), (g1_near, .inl (cy 2, 7, .inl w1_near))] ++ (gWL rh0_times 287 94 (cy 3) v_times)) H → va_D A ([(h0, .inr (1, [.ref h0_times, .ref h0_rest])), (h0_times, .inl (cy 6, 287, gO 287 rh0_times)), (h0_rest, .inl (cy 3, 94, .inr (.inl v_rest_e105))), (g1, .inr (0, [.int w1_parts, og1_1, og1_2, og1_3, og1_4, og1_5, og1_6, og1_7, .ref g1_near, og1_9, og1_10, og1_11, og1_12])), (g1_near, .inl (cy 2, 7, .inl w1_near))] ++ (gWL rh0_times 287 94 (cy 3) v_times)) → va_S A s.heap H locs → lv_has ls 9 [(0, .ref h0), (1, .ref g1), (3, .int p3), (4, .int p4), (5, .int p5), (6, .int x6_52)] → W p l e r1_layRest s m args below meth c H locs 0 0 Q (F0 m 140 ls [])) → W p l e r1_layRest s m args below meth c H locs 0 0 Q (F0 m 105 ls []) := by
                  intro n
                  induction n with
                  | zero =>
                    intro x8_105 v_rest_105 v_rest_e105 H locs ls hM
                    exact absurd hM (by simp [f1_layRest_L105])
                  | succ n ih =>
                    intro x8_105 v_rest_105 v_rest_e105 H locs ls hM hP hD hS hl K
                    rw [f1_layRest_L105] at hM
                    refine lv_iload hx hb dX1_layRest_105 (lv_at hl 7 rfl) ?_
                    refine lv_iload hx hb dX1_layRest_107 (lv_at hl 4 rfl) ?_
                    refine lv_icmp_ge (tgt := 140) hx hb dX1_layRest_109 (by decide) (fun c109 => ?_) (fun c109 => ?_)
                    · have hM := g_pos c109 hM
                      obtain rfl := si1 hM
                      exact K _ _ _ hP hD hS (lv_sub hl [0, 1, 2, 3, 4, 5] rfl)
                    · have hM := g_neg c109 hM
                      refine lv_iload hx hb dX1_layRest_112 (lv_at hl 7 rfl) ?_
                      refine lv_bipush (v := 94) hx hb dX1_layRest_114 (by decide) ?_
                      refine lv_icmp_ge (tgt := 140) hx hb dX1_layRest_116 (by decide) (fun c116 => ?_) (fun c116 => ?_)
                      · have hM := g_pos c116 hM
                        obtain rfl := si1 hM
                        exact K _ _ _ hP hD hS (lv_sub hl [0, 1, 2, 3, 4, 5] rfl)
                      · have hM := g_neg c116 hM
                        refine lv_aload_n hx hb dX1_layRest_119 rfl (lv_at hl 0 rfl) ?_
                        refine va_get (D := D) (ci := 1) (v := .ref h0_rest) (C := RX1) (T := TX1) (N := 2) hx hb hts iX1 hown hK hP 0 rfl rfl 1 (by decide) k16 (fun _ h9 => h9) rfl dX1_layRest_120 ?_
                        refine lv_iload hx hb dX1_layRest_123 (lv_at hl 7 rfl) ?_
                        refine lv_dup2_11 hx hb dX1_layRest_125 rfl rfl ?_
                        obtain ⟨h126, hM⟩ := gi_some hM
                        refine va_lald hx hb hK hP 2 3 rfl rfl h126 dX1_layRest_126 ?_
                        refine lv_aload hx hb dX1_layRest_127 (lv_at hl 6 rfl) ?_
                        refine lv_iload hx hb dX1_layRest_129 (lv_at hl 7 rfl) ?_
                        obtain ⟨h131, hM⟩ := gi_some hM
                        refine wv_lald hx hb hK hP 3 (gWL_rowS h99) rfl h131 dX1_layRest_131 ?_
                        refine lv_lor hx hb dX1_layRest_132 ?_
                        obtain ⟨h133, hM⟩ := gi_some hM
                        refine va_last hx hb hK hP hD hS 2 3 rfl rfl h133 dX1_layRest_133 (fun H locs hP hD hS => ?_)
                        have hP : va_P D vwCl ([(h0, .inr (1, [.ref h0_times, .ref h0_rest])), (h0_times, .inl (cy 6, 287, gO 287 rh0_times)), (h0_rest, .inl (cy 3, 94, .inr (.inl (vp_updL v_rest_105 x8_105.toNatClampNeg ((v_rest_105 x8_105.toNatClampNeg) ||| ((v_times (((p3 - (1 : Int32)) * (7 : Int32)) + x6_52).toNatClampNeg) x8_105.toNatClampNeg)))))), (g1, .inr (0, [.int w1_parts, og1_1, og1_2, og1_3, og1_4, og1_5, og1_6, og1_7, .ref g1_near, og1_9, og1_10, og1_11, og1_12])), (g1_near, .inl (cy 2, 7, .inl w1_near))] ++ (gWL rh0_times 287 94 (cy 3) v_times)) H := hP
                        have hD : va_D A ([(h0, .inr (1, [.ref h0_times, .ref h0_rest])), (h0_times, .inl (cy 6, 287, gO 287 rh0_times)), (h0_rest, .inl (cy 3, 94, .inr (.inl (vp_updL v_rest_105 x8_105.toNatClampNeg ((v_rest_105 x8_105.toNatClampNeg) ||| ((v_times (((p3 - (1 : Int32)) * (7 : Int32)) + x6_52).toNatClampNeg) x8_105.toNatClampNeg)))))), (g1, .inr (0, [.int w1_parts, og1_1, og1_2, og1_3, og1_4, og1_5, og1_6, og1_7, .ref g1_near, og1_9, og1_10, og1_11, og1_12])), (g1_near, .inl (cy 2, 7, .inl w1_near))] ++ (gWL rh0_times 287 94 (cy 3) v_times)) := hD
                        refine lv_iinc (v := x8_105 + (1 : Int32)) (lv' := [(8, .int (x8_105 + (1 : Int32))), (0, .ref h0), (1, .ref g1), (3, .int p3), (4, .int p4), (5, .int p5), (6, .int x6_52), (7, .ref (rh0_times (((p3 - (1 : Int32)) * (7 : Int32)) + x6_52).toNatClampNeg))]) hx hb dX1_layRest_134 hl (k := 7) rfl rfl (by decide) rfl (fun ls hl => ?_)
                        refine lv_goto (tgt := 105) hx hb dX1_layRest_137 (by decide) ?_
                        exact ih (x8_105 + (1 : Int32)) (vp_updL v_rest_105 x8_105.toNatClampNeg ((v_rest_105 x8_105.toNatClampNeg) ||| ((v_times (((p3 - (1 : Int32)) * (7 : Int32)) + x6_52).toNatClampNeg) x8_105.toNatClampNeg))) v_rest_e105 _ _ _ hM hP hD hS (lv_sub hl [1, 2, 3, 4, 5, 6, 7, 0] rfl) K
                obtain ⟨v_rest_e105, hL105, hM⟩ := ob1_some hM
                refine L105 N (0 : Int32) v_rest_52 v_rest_e105 _ _ _ hL105 hP hD hS (lv_sub hl [2, 3, 4, 5, 6, 7, 1, 0] rfl) ?_
                intro H locs ls hP hD hS hl
                refine lv_iinc (v := x6_52 + (1 : Int32)) (lv' := [(6, .int (x6_52 + (1 : Int32))), (0, .ref h0), (1, .ref g1), (3, .int p3), (4, .int p4), (5, .int p5)]) hx hb dX1_layRest_140 hl (k := 5) rfl rfl (by decide) rfl (fun ls hl => ?_)
                refine lv_goto (tgt := 52) hx hb dX1_layRest_143 (by decide) ?_
                exact ih (x6_52 + (1 : Int32)) v_rest_e105 v_rest_e52 _ _ _ hM hP hD hS (lv_sub hl [1, 2, 3, 4, 5, 0] rfl) K
    obtain ⟨v_rest_e52, hL52, hM⟩ := ob1_some hM
    refine L52 N (0 : Int32) v_rest_e3 v_rest_e52 _ _ _ hL52 hP hD hS (lv_sub hl [1, 2, 4, 5, 6, 0] rfl) ?_
    intro H locs ls hP hD hS hl
    obtain rfl := si1 hM
    exact hret _ _ _ _ dX1_layRest_146 hP hD hS
  · have hM := g_pos c33 hM
    refine lv_iload hx hb dX1_layRest_36 (lv_at hl 4 rfl) ?_
    refine lv_iload_n hx hb dX1_layRest_38 rfl (lv_at hl 2 rfl) ?_
    refine lv_icmp_ne (tgt := 49) hx hb dX1_layRest_39 (by decide) (fun c39 => ?_) (fun c39 => ?_)
    · have hM := g_neg c39 hM
      refine lv_iconst (v := 0) hx hb dX1_layRest_49 (by decide) ?_
      refine lv_istore (lv' := [(6, .int (0 : Int32)), (0, .ref h0), (1, .ref g1), (2, .int p2), (3, .int p3), (4, .int p4), (5, .int p5)]) hx hb dX1_layRest_50 hl (by decide) rfl (fun ls hl => ?_)
      have L52 : ∀ (n : Nat) (x6_52 : Int32) (v_rest_52 : Nat → Int64) (v_rest_e52 : Nat → Int64) (H : Heap) (locs : List Loc) (ls : Array Slot), f1_layRest_L52 N p3 p4 p5 v_times w1_parts w1_near n x6_52 v_rest_52 = some v_rest_e52 → va_P D vwCl ([(h0, .inr (1, [.ref h0_times, .ref h0_rest])), (h0_times, .inl (cy 6, 287, gO 287 rh0_times)), (h0_rest, .inl (cy 3, 94, .inr (.inl v_rest_52))), (g1, .inr (0, [.int w1_parts, og1_1, og1_2, og1_3, og1_4, og1_5, og1_6, og1_7, .ref g1_near, og1_9, og1_10, og1_11, og1_12])), (g1_near, .inl (cy 2, 7, .inl w1_near))] ++ (gWL rh0_times 287 94 (cy 3) v_times)) H → va_D A ([(h0, .inr (1, [.ref h0_times, .ref h0_rest])), (h0_times, .inl (cy 6, 287, gO 287 rh0_times)), (h0_rest, .inl (cy 3, 94, .inr (.inl v_rest_52))), (g1, .inr (0, [.int w1_parts, og1_1, og1_2, og1_3, og1_4, og1_5, og1_6, og1_7, .ref g1_near, og1_9, og1_10, og1_11, og1_12])), (g1_near, .inl (cy 2, 7, .inl w1_near))] ++ (gWL rh0_times 287 94 (cy 3) v_times)) → va_S A s.heap H locs → lv_has ls 9 [(0, .ref h0), (1, .ref g1), (3, .int p3), (4, .int p4), (5, .int p5), (6, .int x6_52)] → (∀ (H : Heap) (locs : List Loc) (ls : Array Slot), va_P D vwCl ([(h0, .inr (1, [.ref h0_times, .ref h0_rest])), (h0_times, .inl (cy 6, 287, gO 287 rh0_times)), (h0_rest, .inl (cy 3, 94, .inr (.inl v_rest_e52))), (g1, .inr (0, [.int w1_parts, og1_1, og1_2, og1_3, og1_4, og1_5, og1_6, og1_7, .ref g1_near, og1_9, og1_10, og1_11, og1_12])), (g1_near, .inl (cy 2, 7, .inl w1_near))] ++ (gWL rh0_times 287 94 (cy 3) v_times)) H → va_D A ([(h0, .inr (1, [.ref h0_times, .ref h0_rest])), (h0_times, .inl (cy 6, 287, gO 287 rh0_times)), (h0_rest, .inl (cy 3, 94, .inr (.inl v_rest_e52))), (g1, .inr (0, [.int w1_parts, og1_1, og1_2, og1_3, og1_4, og1_5, og1_6, og1_7, .ref g1_near, og1_9, og1_10, og1_11, og1_12])), (g1_near, .inl (cy 2, 7, .inl w1_near))] ++ (gWL rh0_times 287 94 (cy 3) v_times)) → va_S A s.heap H locs → lv_has ls 9 [] → W p l e r1_layRest s m args below meth c H locs 0 0 Q (F0 m 146 ls [])) → W p l e r1_layRest s m args below meth c H locs 0 0 Q (F0 m 52 ls []) := by
        intro n
        induction n with
        | zero =>
          intro x6_52 v_rest_52 v_rest_e52 H locs ls hM
          exact absurd hM (by simp [f1_layRest_L52])
        | succ n ih =>
          intro x6_52 v_rest_52 v_rest_e52 H locs ls hM hP hD hS hl K
          rw [f1_layRest_L52] at hM
          refine lv_iload hx hb dX1_layRest_52 (lv_at hl 5 rfl) ?_
          refine lv_bipush (v := 7) hx hb dX1_layRest_54 (by decide) ?_
          refine lv_icmp_ge (tgt := 146) hx hb dX1_layRest_56 (by decide) (fun c56 => ?_) (fun c56 => ?_)
          · have hM := g_pos c56 hM
            obtain rfl := si1 hM
            exact K _ _ _ hP hD hS (lv_sub hl [] rfl)
          · have hM := g_neg c56 hM
            refine lv_iload_n hx hb dX1_layRest_59 rfl (lv_at hl 2 rfl) ?_
            refine lv_iconst (v := 1) hx hb dX1_layRest_60 (by decide) ?_
            refine lv_icmp_le (tgt := 140) hx hb dX1_layRest_61 (by decide) (fun c61 => ?_) (fun c61 => ?_)
            · have hM := g_pos c61 hM
              refine lv_iinc (v := x6_52 + (1 : Int32)) (lv' := [(6, .int (x6_52 + (1 : Int32))), (0, .ref h0), (1, .ref g1), (3, .int p3), (4, .int p4), (5, .int p5)]) hx hb dX1_layRest_140 hl (k := 5) rfl rfl (by decide) rfl (fun ls hl => ?_)
              refine lv_goto (tgt := 52) hx hb dX1_layRest_143 (by decide) ?_
              exact ih (x6_52 + (1 : Int32)) v_rest_52 v_rest_e52 _ _ _ hM hP hD hS (lv_sub hl [1, 2, 3, 4, 5, 0] rfl) K
            · have hM := g_neg c61 hM
              refine lv_aload_n hx hb dX1_layRest_64 rfl (lv_at hl 1 rfl) ?_
              refine lv_iload hx hb dX1_layRest_65 (lv_at hl 3 rfl) ?_
              refine lv_iload hx hb dX1_layRest_67 (lv_at hl 5 rfl) ?_
              obtain ⟨r69, hc69, hM⟩ := ob1_some hM
              refine cg_vi (As := [.int p4, .int x6_52]) (rest := []) (ci := 0) (q0 := 3) (wr := ([(h0, .inr (1, [.ref h0_times, .ref h0_rest])), (h0_times, .inl (cy 6, 287, gO 287 rh0_times)), (h0_rest, .inl (cy 3, 94, .inr (.inl v_rest_52)))] ++ (gWL rh0_times 287 94 (cy 3) v_times))) (ws2 := ([(h0, .inr (1, [.ref h0_times, .ref h0_rest])), (h0_times, .inl (cy 6, 287, gO 287 rh0_times)), (h0_rest, .inl (cy 3, 94, .inr (.inl v_rest_52))), (g1, .inr (0, [.int w1_parts, og1_1, og1_2, og1_3, og1_4, og1_5, og1_6, og1_7, .ref g1_near, og1_9, og1_10, og1_11, og1_12])), (g1_near, .inl (cy 2, 7, .inl w1_near))] ++ (gWL rh0_times 287 94 (cy 3) v_times))) hx hb hml hown hts (c0_mayFollow l D cy N g1 g1_near og1_1 og1_2 og1_3 og1_4 og1_5 og1_6 og1_7 og1_9 og1_10 og1_11 og1_12 p4 x6_52 w1_parts w1_near r69 hc69) (cwV 2 hts gX1_layRest_X0_mayFollow rfl rfl rfl (by decide +kernel) ⟨Nat.le_of_ble_eq_true rfl, Nat.le_of_ble_eq_true rfl⟩) hK hP hD hS hA rfl rfl (pm_Q (pm_x [0, 1, 2, 3, 4] rfl rfl)) (pm_Q (pm_x [0, 1, 2, 3, 4] rfl rfl)).symm rfl rfl hl.1 (Nat.le_of_ble_eq_true rfl) dX1_layRest_69 ⟨Nat.zero_le _, Nat.zero_le _⟩ (fun H locs hP hD hS => ?_)
              refine lv_if_eq (tgt := 140) hx hb dX1_layRest_72 (by decide) (fun c72 => ?_) (fun c72 => ?_)
              · have hM := g_pos c72 hM
                refine lv_iinc (v := x6_52 + (1 : Int32)) (lv' := [(6, .int (x6_52 + (1 : Int32))), (0, .ref h0), (1, .ref g1), (3, .int p3), (4, .int p4), (5, .int p5)]) hx hb dX1_layRest_140 hl (k := 5) rfl rfl (by decide) rfl (fun ls hl => ?_)
                refine lv_goto (tgt := 52) hx hb dX1_layRest_143 (by decide) ?_
                exact ih (x6_52 + (1 : Int32)) v_rest_52 v_rest_e52 _ _ _ hM hP hD hS (lv_sub hl [1, 2, 3, 4, 5, 0] rfl) K
              · have hM := g_neg c72 hM
                refine lv_iload_n hx hb dX1_layRest_75 rfl (lv_at hl 2 rfl) ?_
                refine lv_iconst (v := 1) hx hb dX1_layRest_76 (by decide) ?_
                refine lv_isub hx hb dX1_layRest_77 ?_
                refine lv_iload hx hb dX1_layRest_78 (lv_at hl 5 rfl) ?_
                obtain ⟨r80, hc80, hM⟩ := ob1_some hM
                refine cg_si (As := [.int (p3 - (1 : Int32)), .int x6_52]) (rest := []) (wr := ([(h0, .inr (1, [.ref h0_times, .ref h0_rest])), (h0_times, .inl (cy 6, 287, gO 287 rh0_times)), (h0_rest, .inl (cy 3, 94, .inr (.inl v_rest_52))), (g1, .inr (0, [.int w1_parts, og1_1, og1_2, og1_3, og1_4, og1_5, og1_6, og1_7, .ref g1_near, og1_9, og1_10, og1_11, og1_12])), (g1_near, .inl (cy 2, 7, .inl w1_near))] ++ (gWL rh0_times 287 94 (cy 3) v_times))) (ws2 := ([(h0, .inr (1, [.ref h0_times, .ref h0_rest])), (h0_times, .inl (cy 6, 287, gO 287 rh0_times)), (h0_rest, .inl (cy 3, 94, .inr (.inl v_rest_52))), (g1, .inr (0, [.int w1_parts, og1_1, og1_2, og1_3, og1_4, og1_5, og1_6, og1_7, .ref g1_near, og1_9, og1_10, og1_11, og1_12])), (g1_near, .inl (cy 2, 7, .inl w1_near))] ++ (gWL rh0_times 287 94 (cy 3) v_times))) hx hb hml hown hts (c1_isRow l D cy N (p3 - (1 : Int32)) x6_52 r80 hc80) (va_cwS 2 hts gX1_layRest_X1_isRow rfl rfl rfl (by decide +kernel) ⟨Nat.le_of_ble_eq_true rfl, Nat.le_of_ble_eq_true rfl⟩) hK hP hD hS hA (pm_Q (pm_x [0, 1, 2, 3, 4] rfl rfl)) (pm_Q (pm_x [0, 1, 2, 3, 4] rfl rfl)).symm rfl rfl hl.1 (Nat.le_of_ble_eq_true rfl) dX1_layRest_80 ⟨Nat.zero_le _, Nat.zero_le _⟩ (fun H locs hP hD hS => ?_)
                refine lv_if_eq (tgt := 140) hx hb dX1_layRest_83 (by decide) (fun c83 => ?_) (fun c83 => ?_)
                · have hM := g_pos c83 hM
                  refine lv_iinc (v := x6_52 + (1 : Int32)) (lv' := [(6, .int (x6_52 + (1 : Int32))), (0, .ref h0), (1, .ref g1), (3, .int p3), (4, .int p4), (5, .int p5)]) hx hb dX1_layRest_140 hl (k := 5) rfl rfl (by decide) rfl (fun ls hl => ?_)
                  refine lv_goto (tgt := 52) hx hb dX1_layRest_143 (by decide) ?_
                  exact ih (x6_52 + (1 : Int32)) v_rest_52 v_rest_e52 _ _ _ hM hP hD hS (lv_sub hl [1, 2, 3, 4, 5, 0] rfl) K
                · have hM := g_neg c83 hM
                  refine lv_aload_n hx hb dX1_layRest_86 rfl (lv_at hl 0 rfl) ?_
                  refine va_get (D := D) (ci := 1) (v := .ref h0_times) (C := RX1) (T := TX1) (N := 2) hx hb hts iX1 hown hK hP 0 rfl rfl 0 (by decide) k13 (fun _ h9 => h9) rfl dX1_layRest_87 ?_
                  refine lv_iload_n hx hb dX1_layRest_90 rfl (lv_at hl 2 rfl) ?_
                  refine lv_iconst (v := 1) hx hb dX1_layRest_91 (by decide) ?_
                  refine lv_isub hx hb dX1_layRest_92 ?_
                  refine lv_bipush (v := 7) hx hb dX1_layRest_93 (by decide) ?_
                  refine lv_imul hx hb dX1_layRest_95 ?_
                  refine lv_iload hx hb dX1_layRest_96 (lv_at hl 5 rfl) ?_
                  refine lv_iadd hx hb dX1_layRest_98 ?_
                  obtain ⟨h99, hM⟩ := gi_some hM
                  refine wv_aald hx hb hK hP 1 6 rfl rfl h99 dX1_layRest_99 ?_
                  refine lv_astore (lv' := [(7, .ref (rh0_times (((p3 - (1 : Int32)) * (7 : Int32)) + x6_52).toNatClampNeg)), (0, .ref h0), (1, .ref g1), (3, .int p3), (4, .int p4), (5, .int p5), (6, .int x6_52)]) hx hb dX1_layRest_100 hl (by decide) rfl (fun ls hl => ?_)
                  refine lv_iconst (v := 0) hx hb dX1_layRest_102 (by decide) ?_
                  refine lv_istore (lv' := [(8, .int (0 : Int32)), (7, .ref (rh0_times (((p3 - (1 : Int32)) * (7 : Int32)) + x6_52).toNatClampNeg)), (0, .ref h0), (1, .ref g1), (3, .int p3), (4, .int p4), (5, .int p5), (6, .int x6_52)]) hx hb dX1_layRest_103 hl (by decide) rfl (fun ls hl => ?_)
                  have L105 : ∀ (n : Nat) (x8_105 : Int32) (v_rest_105 : Nat → Int64) (v_rest_e105 : Nat → Int64) (H : Heap) (locs : List Loc) (ls : Array Slot), f1_layRest_L105 N p3 p5 v_times x6_52 n x8_105 v_rest_105 = some v_rest_e105 → va_P D vwCl ([(h0, .inr (1, [.ref h0_times, .ref h0_rest])), (h0_times, .inl (cy 6, 287, gO 287 rh0_times)), (h0_rest, .inl (cy 3, 94, .inr (.inl v_rest_105))), (g1, .inr (0, [.int w1_parts, og1_1, og1_2, og1_3, og1_4, og1_5, og1_6, og1_7, .ref g1_near, og1_9, og1_10, og1_11, og1_12])), (g1_near, .inl (cy 2, 7, .inl w1_near))] ++ (gWL rh0_times 287 94 (cy 3) v_times)) H → va_D A ([(h0, .inr (1, [.ref h0_times, .ref h0_rest])), (h0_times, .inl (cy 6, 287, gO 287 rh0_times)), (h0_rest, .inl (cy 3, 94, .inr (.inl v_rest_105))), (g1, .inr (0, [.int w1_parts, og1_1, og1_2, og1_3, og1_4, og1_5, og1_6, og1_7, .ref g1_near, og1_9, og1_10, og1_11, og1_12])), (g1_near, .inl (cy 2, 7, .inl w1_near))] ++ (gWL rh0_times 287 94 (cy 3) v_times)) → va_S A s.heap H locs → lv_has ls 9 [(0, .ref h0), (1, .ref g1), (3, .int p3), (4, .int p4), (5, .int p5), (6, .int x6_52), (7, .ref (rh0_times (((p3 - (1 : Int32)) * (7 : Int32)) + x6_52).toNatClampNeg)), (8, .int x8_105)] → (∀ (H : Heap) (locs : List Loc) (ls : Array Slot), va_P D vwCl ([(h0, .inr (1, [.ref h0_times, .ref h0_rest])), (h0_times, .inl (cy 6, 287, gO 287 rh0_times)), (h0_rest, .inl (cy 3, 94, .inr (.inl v_rest_e105))), (g1, .inr (0, [.int w1_parts, og1_1, og1_2, og1_3, og1_4, og1_5, og1_6, og1_7, .ref g1_near, og1_9, og1_10, og1_11, og1_12])), (g1_near, .inl (cy 2, 7, .inl w1_near))] ++ (gWL rh0_times 287 94 (cy 3) v_times)) H → va_D A ([(h0, .inr (1, [.ref h0_times, .ref h0_rest])), (h0_times, .inl (cy 6, 287, gO 287 rh0_times)), (h0_rest, .inl (cy 3, 94, .inr (.inl v_rest_e105))), (g1, .inr (0, [.int w1_parts, og1_1, og1_2, og1_3, og1_4, og1_5, og1_6, og1_7, .ref g1_near, og1_9, og1_10, og1_11, og1_12])), (g1_near, .inl (cy 2, 7, .inl w1_near))] ++ (gWL rh0_times 287 94 (cy 3) v_times)) → va_S A s.heap H locs → lv_has ls 9 [(0, .ref h0), (1, .ref g1), (3, .int p3), (4, .int p4), (5, .int p5), (6, .int x6_52)] → W p l e r1_layRest s m args below meth c H locs 0 0 Q (F0 m 140 ls [])) → W p l e r1_layRest s m args below meth c H locs 0 0 Q (F0 m 105 ls []) := by
                    intro n
                    induction n with
                    | zero =>
                      intro x8_105 v_rest_105 v_rest_e105 H locs ls hM
                      exact absurd hM (by simp [f1_layRest_L105])
                    | succ n ih =>
                      intro x8_105 v_rest_105 v_rest_e105 H locs ls hM hP hD hS hl K
                      rw [f1_layRest_L105] at hM
                      refine lv_iload hx hb dX1_layRest_105 (lv_at hl 7 rfl) ?_
                      refine lv_iload hx hb dX1_layRest_107 (lv_at hl 4 rfl) ?_
                      refine lv_icmp_ge (tgt := 140) hx hb dX1_layRest_109 (by decide) (fun c109 => ?_) (fun c109 => ?_)
                      · have hM := g_pos c109 hM
                        obtain rfl := si1 hM
                        exact K _ _ _ hP hD hS (lv_sub hl [0, 1, 2, 3, 4, 5] rfl)
                      · have hM := g_neg c109 hM
                        refine lv_iload hx hb dX1_layRest_112 (lv_at hl 7 rfl) ?_
                        refine lv_bipush (v := 94) hx hb dX1_layRest_114 (by decide) ?_
                        refine lv_icmp_ge (tgt := 140) hx hb dX1_layRest_116 (by decide) (fun c116 => ?_) (fun c116 => ?_)
                        · have hM := g_pos c116 hM
                          obtain rfl := si1 hM
                          exact K _ _ _ hP hD hS (lv_sub hl [0, 1, 2, 3, 4, 5] rfl)
                        · have hM := g_neg c116 hM
                          refine lv_aload_n hx hb dX1_layRest_119 rfl (lv_at hl 0 rfl) ?_
                          refine va_get (D := D) (ci := 1) (v := .ref h0_rest) (C := RX1) (T := TX1) (N := 2) hx hb hts iX1 hown hK hP 0 rfl rfl 1 (by decide) k16 (fun _ h9 => h9) rfl dX1_layRest_120 ?_
                          refine lv_iload hx hb dX1_layRest_123 (lv_at hl 7 rfl) ?_
                          refine lv_dup2_11 hx hb dX1_layRest_125 rfl rfl ?_
                          obtain ⟨h126, hM⟩ := gi_some hM
                          refine va_lald hx hb hK hP 2 3 rfl rfl h126 dX1_layRest_126 ?_
                          refine lv_aload hx hb dX1_layRest_127 (lv_at hl 6 rfl) ?_
                          refine lv_iload hx hb dX1_layRest_129 (lv_at hl 7 rfl) ?_
                          obtain ⟨h131, hM⟩ := gi_some hM
                          refine wv_lald hx hb hK hP 3 (gWL_rowS h99) rfl h131 dX1_layRest_131 ?_
                          refine lv_lor hx hb dX1_layRest_132 ?_
                          obtain ⟨h133, hM⟩ := gi_some hM
                          refine va_last hx hb hK hP hD hS 2 3 rfl rfl h133 dX1_layRest_133 (fun H locs hP hD hS => ?_)
                          have hP : va_P D vwCl ([(h0, .inr (1, [.ref h0_times, .ref h0_rest])), (h0_times, .inl (cy 6, 287, gO 287 rh0_times)), (h0_rest, .inl (cy 3, 94, .inr (.inl (vp_updL v_rest_105 x8_105.toNatClampNeg ((v_rest_105 x8_105.toNatClampNeg) ||| ((v_times (((p3 - (1 : Int32)) * (7 : Int32)) + x6_52).toNatClampNeg) x8_105.toNatClampNeg)))))), (g1, .inr (0, [.int w1_parts, og1_1, og1_2, og1_3, og1_4, og1_5, og1_6, og1_7, .ref g1_near, og1_9, og1_10, og1_11, og1_12])), (g1_near, .inl (cy 2, 7, .inl w1_near))] ++ (gWL rh0_times 287 94 (cy 3) v_times)) H := hP
                          have hD : va_D A ([(h0, .inr (1, [.ref h0_times, .ref h0_rest])), (h0_times, .inl (cy 6, 287, gO 287 rh0_times)), (h0_rest, .inl (cy 3, 94, .inr (.inl (vp_updL v_rest_105 x8_105.toNatClampNeg ((v_rest_105 x8_105.toNatClampNeg) ||| ((v_times (((p3 - (1 : Int32)) * (7 : Int32)) + x6_52).toNatClampNeg) x8_105.toNatClampNeg)))))), (g1, .inr (0, [.int w1_parts, og1_1, og1_2, og1_3, og1_4, og1_5, og1_6, og1_7, .ref g1_near, og1_9, og1_10, og1_11, og1_12])), (g1_near, .inl (cy 2, 7, .inl w1_near))] ++ (gWL rh0_times 287 94 (cy 3) v_times)) := hD
                          refine lv_iinc (v := x8_105 + (1 : Int32)) (lv' := [(8, .int (x8_105 + (1 : Int32))), (0, .ref h0), (1, .ref g1), (3, .int p3), (4, .int p4), (5, .int p5), (6, .int x6_52), (7, .ref (rh0_times (((p3 - (1 : Int32)) * (7 : Int32)) + x6_52).toNatClampNeg))]) hx hb dX1_layRest_134 hl (k := 7) rfl rfl (by decide) rfl (fun ls hl => ?_)
                          refine lv_goto (tgt := 105) hx hb dX1_layRest_137 (by decide) ?_
                          exact ih (x8_105 + (1 : Int32)) (vp_updL v_rest_105 x8_105.toNatClampNeg ((v_rest_105 x8_105.toNatClampNeg) ||| ((v_times (((p3 - (1 : Int32)) * (7 : Int32)) + x6_52).toNatClampNeg) x8_105.toNatClampNeg))) v_rest_e105 _ _ _ hM hP hD hS (lv_sub hl [1, 2, 3, 4, 5, 6, 7, 0] rfl) K
                  obtain ⟨v_rest_e105, hL105, hM⟩ := ob1_some hM
                  refine L105 N (0 : Int32) v_rest_52 v_rest_e105 _ _ _ hL105 hP hD hS (lv_sub hl [2, 3, 4, 5, 6, 7, 1, 0] rfl) ?_
                  intro H locs ls hP hD hS hl
                  refine lv_iinc (v := x6_52 + (1 : Int32)) (lv' := [(6, .int (x6_52 + (1 : Int32))), (0, .ref h0), (1, .ref g1), (3, .int p3), (4, .int p4), (5, .int p5)]) hx hb dX1_layRest_140 hl (k := 5) rfl rfl (by decide) rfl (fun ls hl => ?_)
                  refine lv_goto (tgt := 52) hx hb dX1_layRest_143 (by decide) ?_
                  exact ih (x6_52 + (1 : Int32)) v_rest_e105 v_rest_e52 _ _ _ hM hP hD hS (lv_sub hl [1, 2, 3, 4, 5, 0] rfl) K
      obtain ⟨v_rest_e52, hL52, hM⟩ := ob1_some hM
      refine L52 N (0 : Int32) v_rest_e3 v_rest_e52 _ _ _ hL52 hP hD hS (lv_sub hl [1, 2, 4, 5, 6, 0] rfl) ?_
      intro H locs ls hP hD hS hl
      obtain rfl := si1 hM
      exact hret _ _ _ _ dX1_layRest_146 hP hD hS
    · have hM := g_pos c39 hM
      refine lv_aload_n hx hb dX1_layRest_42 rfl (lv_at hl 0 rfl) ?_
      refine va_get (D := D) (ci := 1) (v := .ref h0_rest) (C := RX1) (T := TX1) (N := 2) hx hb hts iX1 hown hK hP 0 rfl rfl 1 (by decide) k16 (fun _ h9 => h9) rfl dX1_layRest_43 ?_
      refine lv_iconst (v := 0) hx hb dX1_layRest_46 (by decide) ?_
      refine lv_lconst (v := 1) hx hb dX1_layRest_47 (by decide) ?_
      obtain ⟨h48, hM⟩ := gi_some hM
      refine va_last hx hb hK hP hD hS 2 3 rfl rfl h48 dX1_layRest_48 (fun H locs hP hD hS => ?_)
      have hP : va_P D vwCl ([(h0, .inr (1, [.ref h0_times, .ref h0_rest])), (h0_times, .inl (cy 6, 287, gO 287 rh0_times)), (h0_rest, .inl (cy 3, 94, .inr (.inl (vp_updL v_rest_e3 (0 : Int32).toNatClampNeg (1 : Int64))))), (g1, .inr (0, [.int w1_parts, og1_1, og1_2, og1_3, og1_4, og1_5, og1_6, og1_7, .ref g1_near, og1_9, og1_10, og1_11, og1_12])), (g1_near, .inl (cy 2, 7, .inl w1_near))] ++ (gWL rh0_times 287 94 (cy 3) v_times)) H := hP
      have hD : va_D A ([(h0, .inr (1, [.ref h0_times, .ref h0_rest])), (h0_times, .inl (cy 6, 287, gO 287 rh0_times)), (h0_rest, .inl (cy 3, 94, .inr (.inl (vp_updL v_rest_e3 (0 : Int32).toNatClampNeg (1 : Int64))))), (g1, .inr (0, [.int w1_parts, og1_1, og1_2, og1_3, og1_4, og1_5, og1_6, og1_7, .ref g1_near, og1_9, og1_10, og1_11, og1_12])), (g1_near, .inl (cy 2, 7, .inl w1_near))] ++ (gWL rh0_times 287 94 (cy 3) v_times)) := hD
      refine lv_iconst (v := 0) hx hb dX1_layRest_49 (by decide) ?_
      refine lv_istore (lv' := [(6, .int (0 : Int32)), (0, .ref h0), (1, .ref g1), (2, .int p2), (3, .int p3), (4, .int p4), (5, .int p5)]) hx hb dX1_layRest_50 hl (by decide) rfl (fun ls hl => ?_)
      have L52 : ∀ (n : Nat) (x6_52 : Int32) (v_rest_52 : Nat → Int64) (v_rest_e52 : Nat → Int64) (H : Heap) (locs : List Loc) (ls : Array Slot), f1_layRest_L52 N p3 p4 p5 v_times w1_parts w1_near n x6_52 v_rest_52 = some v_rest_e52 → va_P D vwCl ([(h0, .inr (1, [.ref h0_times, .ref h0_rest])), (h0_times, .inl (cy 6, 287, gO 287 rh0_times)), (h0_rest, .inl (cy 3, 94, .inr (.inl v_rest_52))), (g1, .inr (0, [.int w1_parts, og1_1, og1_2, og1_3, og1_4, og1_5, og1_6, og1_7, .ref g1_near, og1_9, og1_10, og1_11, og1_12])), (g1_near, .inl (cy 2, 7, .inl w1_near))] ++ (gWL rh0_times 287 94 (cy 3) v_times)) H → va_D A ([(h0, .inr (1, [.ref h0_times, .ref h0_rest])), (h0_times, .inl (cy 6, 287, gO 287 rh0_times)), (h0_rest, .inl (cy 3, 94, .inr (.inl v_rest_52))), (g1, .inr (0, [.int w1_parts, og1_1, og1_2, og1_3, og1_4, og1_5, og1_6, og1_7, .ref g1_near, og1_9, og1_10, og1_11, og1_12])), (g1_near, .inl (cy 2, 7, .inl w1_near))] ++ (gWL rh0_times 287 94 (cy 3) v_times)) → va_S A s.heap H locs → lv_has ls 9 [(0, .ref h0), (1, .ref g1), (3, .int p3), (4, .int p4), (5, .int p5), (6, .int x6_52)] → (∀ (H : Heap) (locs : List Loc) (ls : Array Slot), va_P D vwCl ([(h0, .inr (1, [.ref h0_times, .ref h0_rest])), (h0_times, .inl (cy 6, 287, gO 287 rh0_times)), (h0_rest, .inl (cy 3, 94, .inr (.inl v_rest_e52))), (g1, .inr (0, [.int w1_parts, og1_1, og1_2, og1_3, og1_4, og1_5, og1_6, og1_7, .ref g1_near, og1_9, og1_10, og1_11, og1_12])), (g1_near, .inl (cy 2, 7, .inl w1_near))] ++ (gWL rh0_times 287 94 (cy 3) v_times)) H → va_D A ([(h0, .inr (1, [.ref h0_times, .ref h0_rest])), (h0_times, .inl (cy 6, 287, gO 287 rh0_times)), (h0_rest, .inl (cy 3, 94, .inr (.inl v_rest_e52))), (g1, .inr (0, [.int w1_parts, og1_1, og1_2, og1_3, og1_4, og1_5, og1_6, og1_7, .ref g1_near, og1_9, og1_10, og1_11, og1_12])), (g1_near, .inl (cy 2, 7, .inl w1_near))] ++ (gWL rh0_times 287 94 (cy 3) v_times)) → va_S A s.heap H locs → lv_has ls 9 [] → W p l e r1_layRest s m args below meth c H locs 0 0 Q (F0 m 146 ls [])) → W p l e r1_layRest s m args below meth c H locs 0 0 Q (F0 m 52 ls []) := by
        intro n
        induction n with
        | zero =>
          intro x6_52 v_rest_52 v_rest_e52 H locs ls hM
          exact absurd hM (by simp [f1_layRest_L52])
        | succ n ih =>
          intro x6_52 v_rest_52 v_rest_e52 H locs ls hM hP hD hS hl K
          rw [f1_layRest_L52] at hM
          refine lv_iload hx hb dX1_layRest_52 (lv_at hl 5 rfl) ?_
          refine lv_bipush (v := 7) hx hb dX1_layRest_54 (by decide) ?_
          refine lv_icmp_ge (tgt := 146) hx hb dX1_layRest_56 (by decide) (fun c56 => ?_) (fun c56 => ?_)
          · have hM := g_pos c56 hM
            obtain rfl := si1 hM
            exact K _ _ _ hP hD hS (lv_sub hl [] rfl)
          · have hM := g_neg c56 hM
            refine lv_iload_n hx hb dX1_layRest_59 rfl (lv_at hl 2 rfl) ?_
            refine lv_iconst (v := 1) hx hb dX1_layRest_60 (by decide) ?_
            refine lv_icmp_le (tgt := 140) hx hb dX1_layRest_61 (by decide) (fun c61 => ?_) (fun c61 => ?_)
            · have hM := g_pos c61 hM
              refine lv_iinc (v := x6_52 + (1 : Int32)) (lv' := [(6, .int (x6_52 + (1 : Int32))), (0, .ref h0), (1, .ref g1), (3, .int p3), (4, .int p4), (5, .int p5)]) hx hb dX1_layRest_140 hl (k := 5) rfl rfl (by decide) rfl (fun ls hl => ?_)
              refine lv_goto (tgt := 52) hx hb dX1_layRest_143 (by decide) ?_
              exact ih (x6_52 + (1 : Int32)) v_rest_52 v_rest_e52 _ _ _ hM hP hD hS (lv_sub hl [1, 2, 3, 4, 5, 0] rfl) K
            · have hM := g_neg c61 hM
              refine lv_aload_n hx hb dX1_layRest_64 rfl (lv_at hl 1 rfl) ?_
              refine lv_iload hx hb dX1_layRest_65 (lv_at hl 3 rfl) ?_
              refine lv_iload hx hb dX1_layRest_67 (lv_at hl 5 rfl) ?_
              obtain ⟨r69, hc69, hM⟩ := ob1_some hM
              refine cg_vi (As := [.int p4, .int x6_52]) (rest := []) (ci := 0) (q0 := 3) (wr := ([(h0, .inr (1, [.ref h0_times, .ref h0_rest])), (h0_times, .inl (cy 6, 287, gO 287 rh0_times)), (h0_rest, .inl (cy 3, 94, .inr (.inl v_rest_52)))] ++ (gWL rh0_times 287 94 (cy 3) v_times))) (ws2 := ([(h0, .inr (1, [.ref h0_times, .ref h0_rest])), (h0_times, .inl (cy 6, 287, gO 287 rh0_times)), (h0_rest, .inl (cy 3, 94, .inr (.inl v_rest_52))), (g1, .inr (0, [.int w1_parts, og1_1, og1_2, og1_3, og1_4, og1_5, og1_6, og1_7, .ref g1_near, og1_9, og1_10, og1_11, og1_12])), (g1_near, .inl (cy 2, 7, .inl w1_near))] ++ (gWL rh0_times 287 94 (cy 3) v_times))) hx hb hml hown hts (c0_mayFollow l D cy N g1 g1_near og1_1 og1_2 og1_3 og1_4 og1_5 og1_6 og1_7 og1_9 og1_10 og1_11 og1_12 p4 x6_52 w1_parts w1_near r69 hc69) (cwV 2 hts gX1_layRest_X0_mayFollow rfl rfl rfl (by decide +kernel) ⟨Nat.le_of_ble_eq_true rfl, Nat.le_of_ble_eq_true rfl⟩) hK hP hD hS hA rfl rfl (pm_Q (pm_x [0, 1, 2, 3, 4] rfl rfl)) (pm_Q (pm_x [0, 1, 2, 3, 4] rfl rfl)).symm rfl rfl hl.1 (Nat.le_of_ble_eq_true rfl) dX1_layRest_69 ⟨Nat.zero_le _, Nat.zero_le _⟩ (fun H locs hP hD hS => ?_)
              refine lv_if_eq (tgt := 140) hx hb dX1_layRest_72 (by decide) (fun c72 => ?_) (fun c72 => ?_)
              · have hM := g_pos c72 hM
                refine lv_iinc (v := x6_52 + (1 : Int32)) (lv' := [(6, .int (x6_52 + (1 : Int32))), (0, .ref h0), (1, .ref g1), (3, .int p3), (4, .int p4), (5, .int p5)]) hx hb dX1_layRest_140 hl (k := 5) rfl rfl (by decide) rfl (fun ls hl => ?_)
                refine lv_goto (tgt := 52) hx hb dX1_layRest_143 (by decide) ?_
                exact ih (x6_52 + (1 : Int32)) v_rest_52 v_rest_e52 _ _ _ hM hP hD hS (lv_sub hl [1, 2, 3, 4, 5, 0] rfl) K
              · have hM := g_neg c72 hM
                refine lv_iload_n hx hb dX1_layRest_75 rfl (lv_at hl 2 rfl) ?_
                refine lv_iconst (v := 1) hx hb dX1_layRest_76 (by decide) ?_
                refine lv_isub hx hb dX1_layRest_77 ?_
                refine lv_iload hx hb dX1_layRest_78 (lv_at hl 5 rfl) ?_
                obtain ⟨r80, hc80, hM⟩ := ob1_some hM
                refine cg_si (As := [.int (p3 - (1 : Int32)), .int x6_52]) (rest := []) (wr := ([(h0, .inr (1, [.ref h0_times, .ref h0_rest])), (h0_times, .inl (cy 6, 287, gO 287 rh0_times)), (h0_rest, .inl (cy 3, 94, .inr (.inl v_rest_52))), (g1, .inr (0, [.int w1_parts, og1_1, og1_2, og1_3, og1_4, og1_5, og1_6, og1_7, .ref g1_near, og1_9, og1_10, og1_11, og1_12])), (g1_near, .inl (cy 2, 7, .inl w1_near))] ++ (gWL rh0_times 287 94 (cy 3) v_times))) (ws2 := ([(h0, .inr (1, [.ref h0_times, .ref h0_rest])), (h0_times, .inl (cy 6, 287, gO 287 rh0_times)), (h0_rest, .inl (cy 3, 94, .inr (.inl v_rest_52))), (g1, .inr (0, [.int w1_parts, og1_1, og1_2, og1_3, og1_4, og1_5, og1_6, og1_7, .ref g1_near, og1_9, og1_10, og1_11, og1_12])), (g1_near, .inl (cy 2, 7, .inl w1_near))] ++ (gWL rh0_times 287 94 (cy 3) v_times))) hx hb hml hown hts (c1_isRow l D cy N (p3 - (1 : Int32)) x6_52 r80 hc80) (va_cwS 2 hts gX1_layRest_X1_isRow rfl rfl rfl (by decide +kernel) ⟨Nat.le_of_ble_eq_true rfl, Nat.le_of_ble_eq_true rfl⟩) hK hP hD hS hA (pm_Q (pm_x [0, 1, 2, 3, 4] rfl rfl)) (pm_Q (pm_x [0, 1, 2, 3, 4] rfl rfl)).symm rfl rfl hl.1 (Nat.le_of_ble_eq_true rfl) dX1_layRest_80 ⟨Nat.zero_le _, Nat.zero_le _⟩ (fun H locs hP hD hS => ?_)
                refine lv_if_eq (tgt := 140) hx hb dX1_layRest_83 (by decide) (fun c83 => ?_) (fun c83 => ?_)
                · have hM := g_pos c83 hM
                  refine lv_iinc (v := x6_52 + (1 : Int32)) (lv' := [(6, .int (x6_52 + (1 : Int32))), (0, .ref h0), (1, .ref g1), (3, .int p3), (4, .int p4), (5, .int p5)]) hx hb dX1_layRest_140 hl (k := 5) rfl rfl (by decide) rfl (fun ls hl => ?_)
                  refine lv_goto (tgt := 52) hx hb dX1_layRest_143 (by decide) ?_
                  exact ih (x6_52 + (1 : Int32)) v_rest_52 v_rest_e52 _ _ _ hM hP hD hS (lv_sub hl [1, 2, 3, 4, 5, 0] rfl) K
                · have hM := g_neg c83 hM
                  refine lv_aload_n hx hb dX1_layRest_86 rfl (lv_at hl 0 rfl) ?_
                  refine va_get (D := D) (ci := 1) (v := .ref h0_times) (C := RX1) (T := TX1) (N := 2) hx hb hts iX1 hown hK hP 0 rfl rfl 0 (by decide) k13 (fun _ h9 => h9) rfl dX1_layRest_87 ?_
                  refine lv_iload_n hx hb dX1_layRest_90 rfl (lv_at hl 2 rfl) ?_
                  refine lv_iconst (v := 1) hx hb dX1_layRest_91 (by decide) ?_
                  refine lv_isub hx hb dX1_layRest_92 ?_
                  refine lv_bipush (v := 7) hx hb dX1_layRest_93 (by decide) ?_
                  refine lv_imul hx hb dX1_layRest_95 ?_
                  refine lv_iload hx hb dX1_layRest_96 (lv_at hl 5 rfl) ?_
                  refine lv_iadd hx hb dX1_layRest_98 ?_
                  obtain ⟨h99, hM⟩ := gi_some hM
                  refine wv_aald hx hb hK hP 1 6 rfl rfl h99 dX1_layRest_99 ?_
                  refine lv_astore (lv' := [(7, .ref (rh0_times (((p3 - (1 : Int32)) * (7 : Int32)) + x6_52).toNatClampNeg)), (0, .ref h0), (1, .ref g1), (3, .int p3), (4, .int p4), (5, .int p5), (6, .int x6_52)]) hx hb dX1_layRest_100 hl (by decide) rfl (fun ls hl => ?_)
                  refine lv_iconst (v := 0) hx hb dX1_layRest_102 (by decide) ?_
                  refine lv_istore (lv' := [(8, .int (0 : Int32)), (7, .ref (rh0_times (((p3 - (1 : Int32)) * (7 : Int32)) + x6_52).toNatClampNeg)), (0, .ref h0), (1, .ref g1), (3, .int p3), (4, .int p4), (5, .int p5), (6, .int x6_52)]) hx hb dX1_layRest_103 hl (by decide) rfl (fun ls hl => ?_)
                  have L105 : ∀ (n : Nat) (x8_105 : Int32) (v_rest_105 : Nat → Int64) (v_rest_e105 : Nat → Int64) (H : Heap) (locs : List Loc) (ls : Array Slot), f1_layRest_L105 N p3 p5 v_times x6_52 n x8_105 v_rest_105 = some v_rest_e105 → va_P D vwCl ([(h0, .inr (1, [.ref h0_times, .ref h0_rest])), (h0_times, .inl (cy 6, 287, gO 287 rh0_times)), (h0_rest, .inl (cy 3, 94, .inr (.inl v_rest_105))), (g1, .inr (0, [.int w1_parts, og1_1, og1_2, og1_3, og1_4, og1_5, og1_6, og1_7, .ref g1_near, og1_9, og1_10, og1_11, og1_12])), (g1_near, .inl (cy 2, 7, .inl w1_near))] ++ (gWL rh0_times 287 94 (cy 3) v_times)) H → va_D A ([(h0, .inr (1, [.ref h0_times, .ref h0_rest])), (h0_times, .inl (cy 6, 287, gO 287 rh0_times)), (h0_rest, .inl (cy 3, 94, .inr (.inl v_rest_105))), (g1, .inr (0, [.int w1_parts, og1_1, og1_2, og1_3, og1_4, og1_5, og1_6, og1_7, .ref g1_near, og1_9, og1_10, og1_11, og1_12])), (g1_near, .inl (cy 2, 7, .inl w1_near))] ++ (gWL rh0_times 287 94 (cy 3) v_times)) → va_S A s.heap H locs → lv_has ls 9 [(0, .ref h0), (1, .ref g1), (3, .int p3), (4, .int p4), (5, .int p5), (6, .int x6_52), (7, .ref (rh0_times (((p3 - (1 : Int32)) * (7 : Int32)) + x6_52).toNatClampNeg)), (8, .int x8_105)] → (∀ (H : Heap) (locs : List Loc) (ls : Array Slot), va_P D vwCl ([(h0, .inr (1, [.ref h0_times, .ref h0_rest])), (h0_times, .inl (cy 6, 287, gO 287 rh0_times)), (h0_rest, .inl (cy 3, 94, .inr (.inl v_rest_e105))), (g1, .inr (0, [.int w1_parts, og1_1, og1_2, og1_3, og1_4, og1_5, og1_6, og1_7, .ref g1_near, og1_9, og1_10, og1_11, og1_12])), (g1_near, .inl (cy 2, 7, .inl w1_near))] ++ (gWL rh0_times 287 94 (cy 3) v_times)) H → va_D A ([(h0, .inr (1, [.ref h0_times, .ref h0_rest])), (h0_times, .inl (cy 6, 287, gO 287 rh0_times)), (h0_rest, .inl (cy 3, 94, .inr (.inl v_rest_e105))), (g1, .inr (0, [.int w1_parts, og1_1, og1_2, og1_3, og1_4, og1_5, og1_6, og1_7, .ref g1_near, og1_9, og1_10, og1_11, og1_12])), (g1_near, .inl (cy 2, 7, .inl w1_near))] ++ (gWL rh0_times 287 94 (cy 3) v_times)) → va_S A s.heap H locs → lv_has ls 9 [(0, .ref h0), (1, .ref g1), (3, .int p3), (4, .int p4), (5, .int p5), (6, .int x6_52)] → W p l e r1_layRest s m args below meth c H locs 0 0 Q (F0 m 140 ls [])) → W p l e r1_layRest s m args below meth c H locs 0 0 Q (F0 m 105 ls []) := by
                    intro n
                    induction n with
                    | zero =>
                      intro x8_105 v_rest_105 v_rest_e105 H locs ls hM
                      exact absurd hM (by simp [f1_layRest_L105])
                    | succ n ih =>
                      intro x8_105 v_rest_105 v_rest_e105 H locs ls hM hP hD hS hl K
                      rw [f1_layRest_L105] at hM
                      refine lv_iload hx hb dX1_layRest_105 (lv_at hl 7 rfl) ?_
                      refine lv_iload hx hb dX1_layRest_107 (lv_at hl 4 rfl) ?_
                      refine lv_icmp_ge (tgt := 140) hx hb dX1_layRest_109 (by decide) (fun c109 => ?_) (fun c109 => ?_)
                      · have hM := g_pos c109 hM
                        obtain rfl := si1 hM
                        exact K _ _ _ hP hD hS (lv_sub hl [0, 1, 2, 3, 4, 5] rfl)
                      · have hM := g_neg c109 hM
                        refine lv_iload hx hb dX1_layRest_112 (lv_at hl 7 rfl) ?_
                        refine lv_bipush (v := 94) hx hb dX1_layRest_114 (by decide) ?_
                        refine lv_icmp_ge (tgt := 140) hx hb dX1_layRest_116 (by decide) (fun c116 => ?_) (fun c116 => ?_)
                        · have hM := g_pos c116 hM
                          obtain rfl := si1 hM
                          exact K _ _ _ hP hD hS (lv_sub hl [0, 1, 2, 3, 4, 5] rfl)
                        · have hM := g_neg c116 hM
                          refine lv_aload_n hx hb dX1_layRest_119 rfl (lv_at hl 0 rfl) ?_
                          refine va_get (D := D) (ci := 1) (v := .ref h0_rest) (C := RX1) (T := TX1) (N := 2) hx hb hts iX1 hown hK hP 0 rfl rfl 1 (by decide) k16 (fun _ h9 => h9) rfl dX1_layRest_120 ?_
                          refine lv_iload hx hb dX1_layRest_123 (lv_at hl 7 rfl) ?_
                          refine lv_dup2_11 hx hb dX1_layRest_125 rfl rfl ?_
                          obtain ⟨h126, hM⟩ := gi_some hM
                          refine va_lald hx hb hK hP 2 3 rfl rfl h126 dX1_layRest_126 ?_
                          refine lv_aload hx hb dX1_layRest_127 (lv_at hl 6 rfl) ?_
                          refine lv_iload hx hb dX1_layRest_129 (lv_at hl 7 rfl) ?_
                          obtain ⟨h131, hM⟩ := gi_some hM
                          refine wv_lald hx hb hK hP 3 (gWL_rowS h99) rfl h131 dX1_layRest_131 ?_
                          refine lv_lor hx hb dX1_layRest_132 ?_
                          obtain ⟨h133, hM⟩ := gi_some hM
                          refine va_last hx hb hK hP hD hS 2 3 rfl rfl h133 dX1_layRest_133 (fun H locs hP hD hS => ?_)
                          have hP : va_P D vwCl ([(h0, .inr (1, [.ref h0_times, .ref h0_rest])), (h0_times, .inl (cy 6, 287, gO 287 rh0_times)), (h0_rest, .inl (cy 3, 94, .inr (.inl (vp_updL v_rest_105 x8_105.toNatClampNeg ((v_rest_105 x8_105.toNatClampNeg) ||| ((v_times (((p3 - (1 : Int32)) * (7 : Int32)) + x6_52).toNatClampNeg) x8_105.toNatClampNeg)))))), (g1, .inr (0, [.int w1_parts, og1_1, og1_2, og1_3, og1_4, og1_5, og1_6, og1_7, .ref g1_near, og1_9, og1_10, og1_11, og1_12])), (g1_near, .inl (cy 2, 7, .inl w1_near))] ++ (gWL rh0_times 287 94 (cy 3) v_times)) H := hP
                          have hD : va_D A ([(h0, .inr (1, [.ref h0_times, .ref h0_rest])), (h0_times, .inl (cy 6, 287, gO 287 rh0_times)), (h0_rest, .inl (cy 3, 94, .inr (.inl (vp_updL v_rest_105 x8_105.toNatClampNeg ((v_rest_105 x8_105.toNatClampNeg) ||| ((v_times (((p3 - (1 : Int32)) * (7 : Int32)) + x6_52).toNatClampNeg) x8_105.toNatClampNeg)))))), (g1, .inr (0, [.int w1_parts, og1_1, og1_2, og1_3, og1_4, og1_5, og1_6, og1_7, .ref g1_near, og1_9, og1_10, og1_11, og1_12])), (g1_near, .inl (cy 2, 7, .inl w1_near))] ++ (gWL rh0_times 287 94 (cy 3) v_times)) := hD
                          refine lv_iinc (v := x8_105 + (1 : Int32)) (lv' := [(8, .int (x8_105 + (1 : Int32))), (0, .ref h0), (1, .ref g1), (3, .int p3), (4, .int p4), (5, .int p5), (6, .int x6_52), (7, .ref (rh0_times (((p3 - (1 : Int32)) * (7 : Int32)) + x6_52).toNatClampNeg))]) hx hb dX1_layRest_134 hl (k := 7) rfl rfl (by decide) rfl (fun ls hl => ?_)
                          refine lv_goto (tgt := 105) hx hb dX1_layRest_137 (by decide) ?_
                          exact ih (x8_105 + (1 : Int32)) (vp_updL v_rest_105 x8_105.toNatClampNeg ((v_rest_105 x8_105.toNatClampNeg) ||| ((v_times (((p3 - (1 : Int32)) * (7 : Int32)) + x6_52).toNatClampNeg) x8_105.toNatClampNeg))) v_rest_e105 _ _ _ hM hP hD hS (lv_sub hl [1, 2, 3, 4, 5, 6, 7, 0] rfl) K
                  obtain ⟨v_rest_e105, hL105, hM⟩ := ob1_some hM
                  refine L105 N (0 : Int32) v_rest_52 v_rest_e105 _ _ _ hL105 hP hD hS (lv_sub hl [2, 3, 4, 5, 6, 7, 1, 0] rfl) ?_
                  intro H locs ls hP hD hS hl
                  refine lv_iinc (v := x6_52 + (1 : Int32)) (lv' := [(6, .int (x6_52 + (1 : Int32))), (0, .ref h0), (1, .ref g1), (3, .int p3), (4, .int p4), (5, .int p5)]) hx hb dX1_layRest_140 hl (k := 5) rfl rfl (by decide) rfl (fun ls hl => ?_)
                  refine lv_goto (tgt := 52) hx hb dX1_layRest_143 (by decide) ?_
                  exact ih (x6_52 + (1 : Int32)) v_rest_e105 v_rest_e52 _ _ _ hM hP hD hS (lv_sub hl [1, 2, 3, 4, 5, 0] rfl) K
      obtain ⟨v_rest_e52, hL52, hM⟩ := ob1_some hM
      refine L52 N (0 : Int32) (vp_updL v_rest_e3 (0 : Int32).toNatClampNeg (1 : Int64)) v_rest_e52 _ _ _ hL52 hP hD hS (lv_sub hl [1, 2, 4, 5, 6, 0] rfl) ?_
      intro H locs ls hP hD hS hl
      obtain rfl := si1 hM
      exact hret _ _ _ _ dX1_layRest_146 hP hD hS

-- ===== X1_layShifted layShifted (IIII)V =====
abbrev r1_layShifted : Room := { frames := 1, cells := 0, slots := 0, locals := 21 }
def f1_layShifted_J79 (N : Nat) (p1 : Int32) (p2 : Int32) (p3 : Int32) (v_rest : Nat → Int64) (x8_41 : Int32) (v_times_41 : Nat → Nat → Int64) (rec41 : Int32 → (Nat → Nat → Int64) → Option (Nat → Nat → Int64)) (s0_79 : Int64) : Option (Nat → Nat → Int64) :=
  if (p3 - p3 / (64 : Int32) * (64 : Int32)) ≤ (0 : Int32) then (gi x8_41 94 (rec41 (x8_41 + (1 : Int32)) (upM v_times_41 ((p1 * (7 : Int32)) + p2).toNatClampNeg (vp_updL (v_times_41 ((p1 * (7 : Int32)) + p2).toNatClampNeg) x8_41.toNatClampNeg s0_79)))) else (if x8_41 ≤ (p3 / (64 : Int32)) then (gi x8_41 94 (rec41 (x8_41 + (1 : Int32)) (upM v_times_41 ((p1 * (7 : Int32)) + p2).toNatClampNeg (vp_updL (v_times_41 ((p1 * (7 : Int32)) + p2).toNatClampNeg) x8_41.toNatClampNeg s0_79)))) else (gi ((x8_41 - (p3 / (64 : Int32))) - (1 : Int32)) 94 (gi x8_41 94 (rec41 (x8_41 + (1 : Int32)) (upM v_times_41 ((p1 * (7 : Int32)) + p2).toNatClampNeg (vp_updL (v_times_41 ((p1 * (7 : Int32)) + p2).toNatClampNeg) x8_41.toNatClampNeg (s0_79 ||| (((v_rest ((x8_41 - (p3 / (64 : Int32))) - (1 : Int32)).toNatClampNeg).toUInt64 >>> (((64 : Int32) - (p3 - p3 / (64 : Int32) * (64 : Int32))).toInt64.toUInt64 &&& Int64.toUInt64 63)).toInt64))))))))
def f1_layShifted_L41 (N : Nat) (p1 : Int32) (p2 : Int32) (p3 : Int32) (p4 : Int32) (v_rest : Nat → Int64) : Nat → Int32 → (Nat → Nat → Int64) → Option (Nat → Nat → Int64)
  | 0, _, _ => none
  | n + 1, x8_41, v_times_41 => if p4 ≤ x8_41 then (some v_times_41) else (if (94 : Int32) ≤ x8_41 then (some v_times_41) else (if x8_41 < (p3 / (64 : Int32)) then (f1_layShifted_J79 N p1 p2 p3 v_rest x8_41 v_times_41 (f1_layShifted_L41 N p1 p2 p3 p4 v_rest n) (0 : Int64)) else (gi (x8_41 - (p3 / (64 : Int32))) 94 (f1_layShifted_J79 N p1 p2 p3 v_rest x8_41 v_times_41 (f1_layShifted_L41 N p1 p2 p3 p4 v_rest n) ((v_rest (x8_41 - (p3 / (64 : Int32))).toNatClampNeg) <<< ((p3 - p3 / (64 : Int32) * (64 : Int32)).toInt64 &&& 63))))))
def f1_layShifted (N : Nat) (p1 : Int32) (p2 : Int32) (p3 : Int32) (p4 : Int32) (v_times : Nat → Nat → Int64) (v_rest : Nat → Int64) : Option (Nat → Nat → Int64) :=
  ob1 (f1_isRow N p1 p2) fun r2 => if r2 = (0 : Int32) then (some v_times) else (if (0 : Int32) ≤ p3 then (gi ((p1 * (7 : Int32)) + p2) 287 (ob1 (f1_layShifted_L41 N p1 p2 p3 p4 v_rest N (0 : Int32) v_times) fun v_times_e41 => some v_times_e41)) else (some v_times))
set_option maxHeartbeats 4000000 in
set_option maxRecDepth 100000 in
theorem c1_layShifted (l : Launch) (D : va_G) (cy : Nat → ClassId) (N : Nat) (rh0_times : Nat → Nat) (h0 h0_times h0_rest : Nat) (p1 : Int32) (p2 : Int32) (p3 : Int32) (p4 : Int32) (v_times : Nat → Nat → Int64) (v_rest : Nat → Int64) (nv_times : Nat → Nat → Int64) (hM : f1_layShifted N p1 p2 p3 p4 v_times v_rest = some nv_times) (sz : Nat) : CTv l yX1_layShifted wsX1_layShifted r1_layShifted [.ref h0, .int p1, .int p2, .int p3, .int p4] D cy sz ([(h0, .inr (1, [.ref h0_times, .ref h0_rest])), (h0_times, .inl (cy 6, 287, gO 287 rh0_times)), (h0_rest, .inl (cy 3, 94, .inr (.inl v_rest)))] ++ (gWL rh0_times 287 94 (cy 3) v_times)) ([(h0, .inr (1, [.ref h0_times, .ref h0_rest])), (h0_times, .inl (cy 6, 287, gO 287 rh0_times)), (h0_rest, .inl (cy 3, 94, .inr (.inl v_rest)))] ++ (gWL rh0_times 287 94 (cy 3) nv_times)) := by
  unfold f1_layShifted at hM
  refine ct_ov (cc := cX1_layShifted) (maxL := 11)  (by decide +kernel) rfl (Nat.le_of_ble_eq_true rfl) (lv0 := [(0, .ref h0), (1, .int p1), (2, .int p2), (3, .int p3), (4, .int p4)]) rfl ?_
  intro p e s m args below meth c A Q ls hx hb hts hown hml hK hP hD hS hA hret hl
  have hown : s.vm.findClass RX1 = some m.cls := hown
  have k13 := hts (.fieldLink RX1 13 "CaveYears$ExactTimes" "times" "[[J") (List.mem_of_getElem? (i := 1) rfl)
  have iX1 := (fun w h => (List.mem_cons_of_mem _ (List.mem_append_right _ h)) : ∀ w ∈ wsX10, w ∈ wsX1_layShifted)
  have k16 := hts (.fieldLink RX1 16 "CaveYears$ExactTimes" "rest" "[J") (List.mem_of_getElem? (i := 2) rfl)
  refine lv_iload_n hx hb dX1_layShifted_0 rfl (lv_at hl 1 rfl) ?_
  refine lv_iload_n hx hb dX1_layShifted_1 rfl (lv_at hl 2 rfl) ?_
  obtain ⟨r2, hc2, hM⟩ := ob1_some hM
  refine cg_si (As := [.int p1, .int p2]) (rest := []) (wr := ([(h0, .inr (1, [.ref h0_times, .ref h0_rest])), (h0_times, .inl (cy 6, 287, gO 287 rh0_times)), (h0_rest, .inl (cy 3, 94, .inr (.inl v_rest)))] ++ (gWL rh0_times 287 94 (cy 3) v_times))) (ws2 := ([(h0, .inr (1, [.ref h0_times, .ref h0_rest])), (h0_times, .inl (cy 6, 287, gO 287 rh0_times)), (h0_rest, .inl (cy 3, 94, .inr (.inl v_rest)))] ++ (gWL rh0_times 287 94 (cy 3) v_times))) hx hb hml hown hts (c1_isRow l D cy N p1 p2 r2 hc2) (va_cwS 2 hts gX1_layShifted_X1_isRow rfl rfl rfl (by decide +kernel) ⟨Nat.le_of_ble_eq_true rfl, Nat.le_of_ble_eq_true rfl⟩) hK hP hD hS hA (pm_Q (pm_x [0, 1, 2] rfl rfl)) (pm_Q (pm_x [0, 1, 2] rfl rfl)).symm rfl rfl hl.1 (Nat.le_of_ble_eq_true rfl) dX1_layShifted_2 ⟨Nat.zero_le _, Nat.zero_le _⟩ (fun H locs hP hD hS => ?_)
  refine lv_if_eq (tgt := 12) hx hb dX1_layShifted_5 (by decide) (fun c5 => ?_) (fun c5 => ?_)
  · have hM := g_pos c5 hM
    obtain rfl := si1 hM
    exact hret _ _ _ _ dX1_layShifted_12 hP hD hS
  · have hM := g_neg c5 hM
    refine lv_iload_n hx hb dX1_layShifted_8 rfl (lv_at hl 3 rfl) ?_
    refine lv_if_ge (tgt := 13) hx hb dX1_layShifted_9 (by decide) (fun c9 => ?_) (fun c9 => ?_)
    · have hM := g_pos c9 hM
      refine lv_aload_n hx hb dX1_layShifted_13 rfl (lv_at hl 0 rfl) ?_
      refine va_get (D := D) (ci := 1) (v := .ref h0_times) (C := RX1) (T := TX1) (N := 2) hx hb hts iX1 hown hK hP 0 rfl rfl 0 (by decide) k13 (fun _ h9 => h9) rfl dX1_layShifted_14 ?_
      refine lv_iload_n hx hb dX1_layShifted_17 rfl (lv_at hl 1 rfl) ?_
      refine lv_bipush (v := 7) hx hb dX1_layShifted_18 (by decide) ?_
      refine lv_imul hx hb dX1_layShifted_20 ?_
      refine lv_iload_n hx hb dX1_layShifted_21 rfl (lv_at hl 2 rfl) ?_
      refine lv_iadd hx hb dX1_layShifted_22 ?_
      obtain ⟨h23, hM⟩ := gi_some hM
      refine wv_aald hx hb hK hP 1 6 rfl rfl h23 dX1_layShifted_23 ?_
      refine lv_astore (lv' := [(5, .ref (rh0_times ((p1 * (7 : Int32)) + p2).toNatClampNeg)), (0, .ref h0), (1, .int p1), (2, .int p2), (3, .int p3), (4, .int p4)]) hx hb dX1_layShifted_24 hl (by decide) rfl (fun ls hl => ?_)
      refine lv_iload_n hx hb dX1_layShifted_26 rfl (lv_at hl 4 rfl) ?_
      refine lv_bipush (v := 64) hx hb dX1_layShifted_27 (by decide) ?_
      refine lv_idiv hx hb dX1_layShifted_29 (by decide) ?_
      refine lv_istore (lv' := [(6, .int (p3 / (64 : Int32))), (5, .ref (rh0_times ((p1 * (7 : Int32)) + p2).toNatClampNeg)), (0, .ref h0), (1, .int p1), (2, .int p2), (3, .int p3), (4, .int p4)]) hx hb dX1_layShifted_30 hl (by decide) rfl (fun ls hl => ?_)
      refine lv_iload_n hx hb dX1_layShifted_32 rfl (lv_at hl 5 rfl) ?_
      refine lv_bipush (v := 64) hx hb dX1_layShifted_33 (by decide) ?_
      refine lv_irem hx hb dX1_layShifted_35 (by decide) ?_
      refine lv_istore (lv' := [(7, .int (p3 - p3 / (64 : Int32) * (64 : Int32))), (6, .int (p3 / (64 : Int32))), (5, .ref (rh0_times ((p1 * (7 : Int32)) + p2).toNatClampNeg)), (0, .ref h0), (1, .int p1), (2, .int p2), (3, .int p3), (4, .int p4)]) hx hb dX1_layShifted_36 hl (by decide) rfl (fun ls hl => ?_)
      refine lv_iconst (v := 0) hx hb dX1_layShifted_38 (by decide) ?_
      refine lv_istore (lv' := [(8, .int (0 : Int32)), (7, .int (p3 - p3 / (64 : Int32) * (64 : Int32))), (6, .int (p3 / (64 : Int32))), (5, .ref (rh0_times ((p1 * (7 : Int32)) + p2).toNatClampNeg)), (0, .ref h0), (1, .int p1), (2, .int p2), (3, .int p3), (4, .int p4)]) hx hb dX1_layShifted_39 hl (by decide) rfl (fun ls hl => ?_)
      have L41 : ∀ (n : Nat) (x8_41 : Int32) (v_times_41 : Nat → Nat → Int64) (v_times_e41 : Nat → Nat → Int64) (H : Heap) (locs : List Loc) (ls : Array Slot), f1_layShifted_L41 N p1 p2 p3 p4 v_rest n x8_41 v_times_41 = some v_times_e41 → va_P D vwCl ([(h0, .inr (1, [.ref h0_times, .ref h0_rest])), (h0_times, .inl (cy 6, 287, gO 287 rh0_times)), (h0_rest, .inl (cy 3, 94, .inr (.inl v_rest)))] ++ (gWL rh0_times 287 94 (cy 3) v_times_41)) H → va_D A ([(h0, .inr (1, [.ref h0_times, .ref h0_rest])), (h0_times, .inl (cy 6, 287, gO 287 rh0_times)), (h0_rest, .inl (cy 3, 94, .inr (.inl v_rest)))] ++ (gWL rh0_times 287 94 (cy 3) v_times_41)) → va_S A s.heap H locs → lv_has ls 11 [(0, .ref h0), (4, .int p4), (5, .ref (rh0_times ((p1 * (7 : Int32)) + p2).toNatClampNeg)), (6, .int (p3 / (64 : Int32))), (7, .int (p3 - p3 / (64 : Int32) * (64 : Int32))), (8, .int x8_41)] → (∀ (H : Heap) (locs : List Loc) (ls : Array Slot), va_P D vwCl ([(h0, .inr (1, [.ref h0_times, .ref h0_rest])), (h0_times, .inl (cy 6, 287, gO 287 rh0_times)), (h0_rest, .inl (cy 3, 94, .inr (.inl v_rest)))] ++ (gWL rh0_times 287 94 (cy 3) v_times_e41)) H → va_D A ([(h0, .inr (1, [.ref h0_times, .ref h0_rest])), (h0_times, .inl (cy 6, 287, gO 287 rh0_times)), (h0_rest, .inl (cy 3, 94, .inr (.inl v_rest)))] ++ (gWL rh0_times 287 94 (cy 3) v_times_e41)) → va_S A s.heap H locs → lv_has ls 11 [] → W p l e r1_layShifted s m args below meth c H locs 0 0 Q (F0 m 129 ls [])) → W p l e r1_layShifted s m args below meth c H locs 0 0 Q (F0 m 41 ls []) := by
        intro n
        induction n with
        | zero =>
          intro x8_41 v_times_41 v_times_e41 H locs ls hM
          exact absurd hM (by simp [f1_layShifted_L41])
        | succ n ih =>
          intro x8_41 v_times_41 v_times_e41 H locs ls hM hP hD hS hl K
          rw [f1_layShifted_L41] at hM
          refine lv_iload hx hb dX1_layShifted_41 (lv_at hl 5 rfl) ?_
          refine lv_iload hx hb dX1_layShifted_43 (lv_at hl 1 rfl) ?_
          refine lv_icmp_ge (tgt := 129) hx hb dX1_layShifted_45 (by decide) (fun c45 => ?_) (fun c45 => ?_)
          · have hM := g_pos c45 hM
            obtain rfl := si1 hM
            exact K _ _ _ hP hD hS (lv_sub hl [] rfl)
          · have hM := g_neg c45 hM
            refine lv_iload hx hb dX1_layShifted_48 (lv_at hl 5 rfl) ?_
            refine lv_bipush (v := 94) hx hb dX1_layShifted_50 (by decide) ?_
            refine lv_icmp_ge (tgt := 129) hx hb dX1_layShifted_52 (by decide) (fun c52 => ?_) (fun c52 => ?_)
            · have hM := g_pos c52 hM
              obtain rfl := si1 hM
              exact K _ _ _ hP hD hS (lv_sub hl [] rfl)
            · have hM := g_neg c52 hM
              refine lv_iload hx hb dX1_layShifted_55 (lv_at hl 5 rfl) ?_
              refine lv_iload hx hb dX1_layShifted_57 (lv_at hl 3 rfl) ?_
              have K79 : ∀ (s0_79 : Int64) (H : Heap) (locs : List Loc) (ls : Array Slot), f1_layShifted_J79 N p1 p2 p3 v_rest x8_41 v_times_41 (f1_layShifted_L41 N p1 p2 p3 p4 v_rest n) s0_79 = some v_times_e41 → va_P D vwCl ([(h0, .inr (1, [.ref h0_times, .ref h0_rest])), (h0_times, .inl (cy 6, 287, gO 287 rh0_times)), (h0_rest, .inl (cy 3, 94, .inr (.inl v_rest)))] ++ (gWL rh0_times 287 94 (cy 3) v_times_41)) H → va_D A ([(h0, .inr (1, [.ref h0_times, .ref h0_rest])), (h0_times, .inl (cy 6, 287, gO 287 rh0_times)), (h0_rest, .inl (cy 3, 94, .inr (.inl v_rest)))] ++ (gWL rh0_times 287 94 (cy 3) v_times_41)) → va_S A s.heap H locs → lv_has ls 11 [(0, .ref h0), (4, .int p4), (5, .ref (rh0_times ((p1 * (7 : Int32)) + p2).toNatClampNeg)), (6, .int (p3 / (64 : Int32))), (7, .int (p3 - p3 / (64 : Int32) * (64 : Int32))), (8, .int x8_41)] → W p l e r1_layShifted s m args below meth c H locs 0 0 Q (F0 m 79 ls [.long s0_79]) := by
                intro s0_79 H locs ls hM hP hD hS hl
                unfold f1_layShifted_J79 at hM
                refine lv_lstore (lv' := [(9, .long s0_79), (0, .ref h0), (4, .int p4), (5, .ref (rh0_times ((p1 * (7 : Int32)) + p2).toNatClampNeg)), (6, .int (p3 / (64 : Int32))), (7, .int (p3 - p3 / (64 : Int32) * (64 : Int32))), (8, .int x8_41)]) hx hb dX1_layShifted_79 hl (by decide) rfl (fun ls hl => ?_)
                refine lv_iload hx hb dX1_layShifted_81 (lv_at hl 5 rfl) ?_
                refine lv_if_le (tgt := 116) hx hb dX1_layShifted_83 (by decide) (fun c83 => ?_) (fun c83 => ?_)
                · have hM := g_pos c83 hM
                  refine lv_aload hx hb dX1_layShifted_116 (lv_at hl 3 rfl) ?_
                  refine lv_iload hx hb dX1_layShifted_118 (lv_at hl 6 rfl) ?_
                  refine lv_lload hx hb dX1_layShifted_120 (lv_at hl 0 rfl) ?_
                  obtain ⟨h122, hM⟩ := gi_some hM
                  refine wv_last hx hb hK hP hD hS 3 (gWL_rowS h23) rfl h122 dX1_layShifted_122 (fun H locs hP hD hS => ?_)
                  have hP : va_P D vwCl ([(h0, .inr (1, [.ref h0_times, .ref h0_rest])), (h0_times, .inl (cy 6, 287, gO 287 rh0_times)), (h0_rest, .inl (cy 3, 94, .inr (.inl v_rest)))] ++ (gWL rh0_times 287 94 (cy 3) (upM v_times_41 ((p1 * (7 : Int32)) + p2).toNatClampNeg (vp_updL (v_times_41 ((p1 * (7 : Int32)) + p2).toNatClampNeg) x8_41.toNatClampNeg s0_79)))) H := hP
                  have hD : va_D A ([(h0, .inr (1, [.ref h0_times, .ref h0_rest])), (h0_times, .inl (cy 6, 287, gO 287 rh0_times)), (h0_rest, .inl (cy 3, 94, .inr (.inl v_rest)))] ++ (gWL rh0_times 287 94 (cy 3) (upM v_times_41 ((p1 * (7 : Int32)) + p2).toNatClampNeg (vp_updL (v_times_41 ((p1 * (7 : Int32)) + p2).toNatClampNeg) x8_41.toNatClampNeg s0_79)))) := hD
                  refine lv_iinc (v := x8_41 + (1 : Int32)) (lv' := [(8, .int (x8_41 + (1 : Int32))), (9, .long s0_79), (0, .ref h0), (4, .int p4), (5, .ref (rh0_times ((p1 * (7 : Int32)) + p2).toNatClampNeg)), (6, .int (p3 / (64 : Int32))), (7, .int (p3 - p3 / (64 : Int32) * (64 : Int32)))]) hx hb dX1_layShifted_123 hl (k := 6) rfl rfl (by decide) rfl (fun ls hl => ?_)
                  refine lv_goto (tgt := 41) hx hb dX1_layShifted_126 (by decide) ?_
                  exact ih (x8_41 + (1 : Int32)) (upM v_times_41 ((p1 * (7 : Int32)) + p2).toNatClampNeg (vp_updL (v_times_41 ((p1 * (7 : Int32)) + p2).toNatClampNeg) x8_41.toNatClampNeg s0_79)) v_times_e41 _ _ _ hM hP hD hS (lv_sub hl [2, 3, 4, 5, 6, 0] rfl) K
                · have hM := g_neg c83 hM
                  refine lv_iload hx hb dX1_layShifted_86 (lv_at hl 6 rfl) ?_
                  refine lv_iload hx hb dX1_layShifted_88 (lv_at hl 4 rfl) ?_
                  refine lv_icmp_le (tgt := 116) hx hb dX1_layShifted_90 (by decide) (fun c90 => ?_) (fun c90 => ?_)
                  · have hM := g_pos c90 hM
                    refine lv_aload hx hb dX1_layShifted_116 (lv_at hl 3 rfl) ?_
                    refine lv_iload hx hb dX1_layShifted_118 (lv_at hl 6 rfl) ?_
                    refine lv_lload hx hb dX1_layShifted_120 (lv_at hl 0 rfl) ?_
                    obtain ⟨h122, hM⟩ := gi_some hM
                    refine wv_last hx hb hK hP hD hS 3 (gWL_rowS h23) rfl h122 dX1_layShifted_122 (fun H locs hP hD hS => ?_)
                    have hP : va_P D vwCl ([(h0, .inr (1, [.ref h0_times, .ref h0_rest])), (h0_times, .inl (cy 6, 287, gO 287 rh0_times)), (h0_rest, .inl (cy 3, 94, .inr (.inl v_rest)))] ++ (gWL rh0_times 287 94 (cy 3) (upM v_times_41 ((p1 * (7 : Int32)) + p2).toNatClampNeg (vp_updL (v_times_41 ((p1 * (7 : Int32)) + p2).toNatClampNeg) x8_41.toNatClampNeg s0_79)))) H := hP
                    have hD : va_D A ([(h0, .inr (1, [.ref h0_times, .ref h0_rest])), (h0_times, .inl (cy 6, 287, gO 287 rh0_times)), (h0_rest, .inl (cy 3, 94, .inr (.inl v_rest)))] ++ (gWL rh0_times 287 94 (cy 3) (upM v_times_41 ((p1 * (7 : Int32)) + p2).toNatClampNeg (vp_updL (v_times_41 ((p1 * (7 : Int32)) + p2).toNatClampNeg) x8_41.toNatClampNeg s0_79)))) := hD
                    refine lv_iinc (v := x8_41 + (1 : Int32)) (lv' := [(8, .int (x8_41 + (1 : Int32))), (9, .long s0_79), (0, .ref h0), (4, .int p4), (5, .ref (rh0_times ((p1 * (7 : Int32)) + p2).toNatClampNeg)), (6, .int (p3 / (64 : Int32))), (7, .int (p3 - p3 / (64 : Int32) * (64 : Int32)))]) hx hb dX1_layShifted_123 hl (k := 6) rfl rfl (by decide) rfl (fun ls hl => ?_)
                    refine lv_goto (tgt := 41) hx hb dX1_layShifted_126 (by decide) ?_
                    exact ih (x8_41 + (1 : Int32)) (upM v_times_41 ((p1 * (7 : Int32)) + p2).toNatClampNeg (vp_updL (v_times_41 ((p1 * (7 : Int32)) + p2).toNatClampNeg) x8_41.toNatClampNeg s0_79)) v_times_e41 _ _ _ hM hP hD hS (lv_sub hl [2, 3, 4, 5, 6, 0] rfl) K
                  · have hM := g_neg c90 hM
                    refine lv_lload hx hb dX1_layShifted_93 (lv_at hl 0 rfl) ?_
                    refine lv_aload_n hx hb dX1_layShifted_95 rfl (lv_at hl 1 rfl) ?_
                    refine va_get (D := D) (ci := 1) (v := .ref h0_rest) (C := RX1) (T := TX1) (N := 2) hx hb hts iX1 hown hK hP 0 rfl rfl 1 (by decide) k16 (fun _ h9 => h9) rfl dX1_layShifted_96 ?_
                    refine lv_iload hx hb dX1_layShifted_99 (lv_at hl 6 rfl) ?_
                    refine lv_iload hx hb dX1_layShifted_101 (lv_at hl 4 rfl) ?_
                    refine lv_isub hx hb dX1_layShifted_103 ?_
                    refine lv_iconst (v := 1) hx hb dX1_layShifted_104 (by decide) ?_
                    refine lv_isub hx hb dX1_layShifted_105 ?_
                    obtain ⟨h106, hM⟩ := gi_some hM
                    refine va_lald hx hb hK hP 2 3 rfl rfl h106 dX1_layShifted_106 ?_
                    refine lv_bipush (v := 64) hx hb dX1_layShifted_107 (by decide) ?_
                    refine lv_iload hx hb dX1_layShifted_109 (lv_at hl 5 rfl) ?_
                    refine lv_isub hx hb dX1_layShifted_111 ?_
                    refine lv_lushr (v := ((v_rest ((x8_41 - (p3 / (64 : Int32))) - (1 : Int32)).toNatClampNeg).toUInt64 >>> (((64 : Int32) - (p3 - p3 / (64 : Int32) * (64 : Int32))).toInt64.toUInt64 &&& Int64.toUInt64 63)).toInt64) hx hb dX1_layShifted_112 rfl ?_
                    refine lv_lor hx hb dX1_layShifted_113 ?_
                    refine lv_lstore (lv' := [(9, .long (s0_79 ||| (((v_rest ((x8_41 - (p3 / (64 : Int32))) - (1 : Int32)).toNatClampNeg).toUInt64 >>> (((64 : Int32) - (p3 - p3 / (64 : Int32) * (64 : Int32))).toInt64.toUInt64 &&& Int64.toUInt64 63)).toInt64))), (0, .ref h0), (4, .int p4), (5, .ref (rh0_times ((p1 * (7 : Int32)) + p2).toNatClampNeg)), (6, .int (p3 / (64 : Int32))), (7, .int (p3 - p3 / (64 : Int32) * (64 : Int32))), (8, .int x8_41)]) hx hb dX1_layShifted_114 hl (by decide) rfl (fun ls hl => ?_)
                    refine lv_aload hx hb dX1_layShifted_116 (lv_at hl 3 rfl) ?_
                    refine lv_iload hx hb dX1_layShifted_118 (lv_at hl 6 rfl) ?_
                    refine lv_lload hx hb dX1_layShifted_120 (lv_at hl 0 rfl) ?_
                    obtain ⟨h122, hM⟩ := gi_some hM
                    refine wv_last hx hb hK hP hD hS 3 (gWL_rowS h23) rfl h122 dX1_layShifted_122 (fun H locs hP hD hS => ?_)
                    have hP : va_P D vwCl ([(h0, .inr (1, [.ref h0_times, .ref h0_rest])), (h0_times, .inl (cy 6, 287, gO 287 rh0_times)), (h0_rest, .inl (cy 3, 94, .inr (.inl v_rest)))] ++ (gWL rh0_times 287 94 (cy 3) (upM v_times_41 ((p1 * (7 : Int32)) + p2).toNatClampNeg (vp_updL (v_times_41 ((p1 * (7 : Int32)) + p2).toNatClampNeg) x8_41.toNatClampNeg (s0_79 ||| (((v_rest ((x8_41 - (p3 / (64 : Int32))) - (1 : Int32)).toNatClampNeg).toUInt64 >>> (((64 : Int32) - (p3 - p3 / (64 : Int32) * (64 : Int32))).toInt64.toUInt64 &&& Int64.toUInt64 63)).toInt64)))))) H := hP
                    have hD : va_D A ([(h0, .inr (1, [.ref h0_times, .ref h0_rest])), (h0_times, .inl (cy 6, 287, gO 287 rh0_times)), (h0_rest, .inl (cy 3, 94, .inr (.inl v_rest)))] ++ (gWL rh0_times 287 94 (cy 3) (upM v_times_41 ((p1 * (7 : Int32)) + p2).toNatClampNeg (vp_updL (v_times_41 ((p1 * (7 : Int32)) + p2).toNatClampNeg) x8_41.toNatClampNeg (s0_79 ||| (((v_rest ((x8_41 - (p3 / (64 : Int32))) - (1 : Int32)).toNatClampNeg).toUInt64 >>> (((64 : Int32) - (p3 - p3 / (64 : Int32) * (64 : Int32))).toInt64.toUInt64 &&& Int64.toUInt64 63)).toInt64)))))) := hD
                    refine lv_iinc (v := x8_41 + (1 : Int32)) (lv' := [(8, .int (x8_41 + (1 : Int32))), (9, .long (s0_79 ||| (((v_rest ((x8_41 - (p3 / (64 : Int32))) - (1 : Int32)).toNatClampNeg).toUInt64 >>> (((64 : Int32) - (p3 - p3 / (64 : Int32) * (64 : Int32))).toInt64.toUInt64 &&& Int64.toUInt64 63)).toInt64))), (0, .ref h0), (4, .int p4), (5, .ref (rh0_times ((p1 * (7 : Int32)) + p2).toNatClampNeg)), (6, .int (p3 / (64 : Int32))), (7, .int (p3 - p3 / (64 : Int32) * (64 : Int32)))]) hx hb dX1_layShifted_123 hl (k := 6) rfl rfl (by decide) rfl (fun ls hl => ?_)
                    refine lv_goto (tgt := 41) hx hb dX1_layShifted_126 (by decide) ?_
                    exact ih (x8_41 + (1 : Int32)) (upM v_times_41 ((p1 * (7 : Int32)) + p2).toNatClampNeg (vp_updL (v_times_41 ((p1 * (7 : Int32)) + p2).toNatClampNeg) x8_41.toNatClampNeg (s0_79 ||| (((v_rest ((x8_41 - (p3 / (64 : Int32))) - (1 : Int32)).toNatClampNeg).toUInt64 >>> (((64 : Int32) - (p3 - p3 / (64 : Int32) * (64 : Int32))).toInt64.toUInt64 &&& Int64.toUInt64 63)).toInt64)))) v_times_e41 _ _ _ hM hP hD hS (lv_sub hl [2, 3, 4, 5, 6, 0] rfl) K
              refine lv_icmp_lt (tgt := 78) hx hb dX1_layShifted_59 (by decide) (fun c59 => ?_) (fun c59 => ?_)
              · have hM := g_pos c59 hM
                refine lv_lconst (v := 0) hx hb dX1_layShifted_78 (by decide) ?_
                exact K79 (0 : Int64) _ _ _ hM hP hD hS (lv_sub hl [0, 1, 2, 3, 4, 5] rfl)
              · have hM := g_neg c59 hM
                refine lv_aload_n hx hb dX1_layShifted_62 rfl (lv_at hl 0 rfl) ?_
                refine va_get (D := D) (ci := 1) (v := .ref h0_rest) (C := RX1) (T := TX1) (N := 2) hx hb hts iX1 hown hK hP 0 rfl rfl 1 (by decide) k16 (fun _ h9 => h9) rfl dX1_layShifted_63 ?_
                refine lv_iload hx hb dX1_layShifted_66 (lv_at hl 5 rfl) ?_
                refine lv_iload hx hb dX1_layShifted_68 (lv_at hl 3 rfl) ?_
                refine lv_isub hx hb dX1_layShifted_70 ?_
                obtain ⟨h71, hM⟩ := gi_some hM
                refine va_lald hx hb hK hP 2 3 rfl rfl h71 dX1_layShifted_71 ?_
                refine lv_iload hx hb dX1_layShifted_72 (lv_at hl 4 rfl) ?_
                refine lv_lshl (v := ((v_rest (x8_41 - (p3 / (64 : Int32))).toNatClampNeg) <<< ((p3 - p3 / (64 : Int32) * (64 : Int32)).toInt64 &&& 63))) hx hb dX1_layShifted_74 rfl ?_
                refine lv_goto (tgt := 79) hx hb dX1_layShifted_75 (by decide) ?_
                exact K79 ((v_rest (x8_41 - (p3 / (64 : Int32))).toNatClampNeg) <<< ((p3 - p3 / (64 : Int32) * (64 : Int32)).toInt64 &&& 63)) _ _ _ hM hP hD hS (lv_sub hl [0, 1, 2, 3, 4, 5] rfl)
      obtain ⟨v_times_e41, hL41, hM⟩ := ob1_some hM
      refine L41 N (0 : Int32) v_times v_times_e41 _ _ _ hL41 hP hD hS (lv_sub hl [4, 8, 3, 2, 1, 0] rfl) ?_
      intro H locs ls hP hD hS hl
      obtain rfl := si1 hM
      exact hret _ _ _ _ dX1_layShifted_129 hP hD hS
    · have hM := g_neg c9 hM
      obtain rfl := si1 hM
      exact hret _ _ _ _ dX1_layShifted_12 hP hD hS

-- ===== X1_daysMaking daysMaking (LCaveYears$Cave;III)I =====
abbrev r1_daysMaking : Room := { frames := 4, cells := 0, slots := 0, locals := 93 }
def f1_daysMaking_L27 (N : Nat) (p3 : Int32) (p4 : Int32) (w1_parts : Int32) (w1_rate : Nat → Int32) (w1_near : Nat → Int32) (x6_17 : Int32) : Nat → Int32 → (Nat → Nat → Int64) → (Nat → Int64) → Option ((Nat → Nat → Int64) × (Nat → Int64))
  | 0, _, _, _ => none
  | n + 1, x7_27, v_times_27, v_rest_27 => if (7 : Int32) ≤ x7_27 then (some (v_times_27, v_rest_27)) else (ob1 (f0_hasPart N x7_27 w1_parts) fun r37 => if r37 = (0 : Int32) then ((f1_daysMaking_L27 N p3 p4 w1_parts w1_rate w1_near x6_17 n) (x7_27 + (1 : Int32)) v_times_27 v_rest_27) else (ob1 (f1_layRest N p3 x6_17 x7_27 (if ((p4 / (64 : Int32)) + (1 : Int32)) < (94 : Int32) then ((p4 / (64 : Int32)) + (1 : Int32)) else (94 : Int32)) v_times_27 v_rest_27 w1_parts w1_near) fun v_rest_52 => ob1 (f0_rateOf N x7_27 w1_parts w1_rate) fun r63 => ob1 (f1_layShifted N x6_17 x7_27 r63 (if ((p4 / (64 : Int32)) + (1 : Int32)) < (94 : Int32) then ((p4 / (64 : Int32)) + (1 : Int32)) else (94 : Int32)) v_times_27 v_rest_52) fun v_times_68 => (f1_daysMaking_L27 N p3 p4 w1_parts w1_rate w1_near x6_17 n) (x7_27 + (1 : Int32)) v_times_68 v_rest_52))
def f1_daysMaking_L17 (N : Nat) (p2 : Int32) (p3 : Int32) (p4 : Int32) (w1_parts : Int32) (w1_rate : Nat → Int32) (w1_near : Nat → Int32) : Nat → Int32 → (Nat → Nat → Int64) → (Nat → Int64) → Option (Int32 × (Nat → Nat → Int64) × (Nat → Int64))
  | 0, _, _, _ => none
  | n + 1, x6_17, v_times_17, v_rest_17 => if (40 : Int32) < x6_17 then (some ((-1 : Int32), v_times_17, v_rest_17)) else (ob2 (f1_daysMaking_L27 N p3 p4 w1_parts w1_rate w1_near x6_17 N (0 : Int32) v_times_17 v_rest_17) fun v_times_e27 v_rest_e27 => ob1 (f1_canMake N x6_17 p2 p4 v_times_e27) fun r83 => if r83 = (0 : Int32) then ((f1_daysMaking_L17 N p2 p3 p4 w1_parts w1_rate w1_near n) (x6_17 + (1 : Int32)) v_times_e27 v_rest_e27) else (some (x6_17, v_times_e27, v_rest_e27)))
def f1_daysMaking (N : Nat) (p2 : Int32) (p3 : Int32) (p4 : Int32) (v_times : Nat → Nat → Int64) (v_rest : Nat → Int64) (w1_parts : Int32) (w1_rate : Nat → Int32) (w1_near : Nat → Int32) : Option (Int32 × (Nat → Nat → Int64) × (Nat → Int64)) :=
  f1_daysMaking_L17 N p2 p3 p4 w1_parts w1_rate w1_near N (1 : Int32) v_times v_rest
set_option maxHeartbeats 4000000 in
set_option maxRecDepth 100000 in
theorem c1_daysMaking (l : Launch) (D : va_G) (cy : Nat → ClassId) (N : Nat) (rh0_times : Nat → Nat) (h0 h0_times h0_rest g1 g1_rate g1_near : Nat) (og1_1 og1_2 og1_3 og1_4 og1_5 og1_6 og1_9 og1_10 og1_11 og1_12 : Value) (p2 : Int32) (p3 : Int32) (p4 : Int32) (v_times : Nat → Nat → Int64) (v_rest : Nat → Int64) (w1_parts : Int32) (w1_rate : Nat → Int32) (w1_near : Nat → Int32) (r : Int32) (nv_times : Nat → Nat → Int64) (nv_rest : Nat → Int64) (hM : f1_daysMaking N p2 p3 p4 v_times v_rest w1_parts w1_rate w1_near = some (r, nv_times, nv_rest)) (sz : Nat) : CTi l yX1_daysMaking wsX1_daysMaking r1_daysMaking [.ref h0, .ref g1, .int p2, .int p3, .int p4] D cy sz ([(h0, .inr (1, [.ref h0_times, .ref h0_rest])), (h0_times, .inl (cy 6, 287, gO 287 rh0_times)), (h0_rest, .inl (cy 3, 94, .inr (.inl v_rest))), (g1, .inr (0, [.int w1_parts, og1_1, og1_2, og1_3, og1_4, og1_5, og1_6, .ref g1_rate, .ref g1_near, og1_9, og1_10, og1_11, og1_12])), (g1_rate, .inl (cy 2, 7, .inl w1_rate)), (g1_near, .inl (cy 2, 7, .inl w1_near))] ++ (gWL rh0_times 287 94 (cy 3) v_times)) ([(h0, .inr (1, [.ref h0_times, .ref h0_rest])), (h0_times, .inl (cy 6, 287, gO 287 rh0_times)), (h0_rest, .inl (cy 3, 94, .inr (.inl nv_rest))), (g1, .inr (0, [.int w1_parts, og1_1, og1_2, og1_3, og1_4, og1_5, og1_6, .ref g1_rate, .ref g1_near, og1_9, og1_10, og1_11, og1_12])), (g1_rate, .inl (cy 2, 7, .inl w1_rate)), (g1_near, .inl (cy 2, 7, .inl w1_near))] ++ (gWL rh0_times 287 94 (cy 3) nv_times)) r := by
  unfold f1_daysMaking at hM
  refine ct_oi (cc := cX1_daysMaking) (maxL := 8) (ty := .int) (by decide +kernel) rfl (Nat.le_of_ble_eq_true rfl) (lv0 := [(0, .ref h0), (1, .ref g1), (2, .int p2), (3, .int p3), (4, .int p4)]) rfl ?_
  intro p e s m args below meth c A Q ls hx hb hts hown hml hK hP hD hS hA hret hl
  have hown : s.vm.findClass RX1 = some m.cls := hown
  have k20 := hts (.methodLink RX1 20 Lib.Math.min.name) (List.mem_of_getElem? (i := 1) rfl)
  have ks20 := hts (.static Lib.Math.min.name) (List.mem_of_getElem? (i := 2) rfl)
  have kmath := hts (.initialized "java/lang/Math") (List.mem_of_getElem? (i := 3) rfl)
  have kc20 := hts (.code Lib.Math.min.name Lib.Math.min.code 2 (some .int)) (List.mem_of_getElem? (i := 4) rfl)
  refine lv_bipush (v := 94) hx hb dX1_daysMaking_0 (by decide) ?_
  refine lv_iload hx hb dX1_daysMaking_2 (lv_at hl 4 rfl) ?_
  refine lv_bipush (v := 64) hx hb dX1_daysMaking_4 (by decide) ?_
  refine lv_idiv hx hb dX1_daysMaking_6 (by decide) ?_
  refine lv_iconst (v := 1) hx hb dX1_daysMaking_7 (by decide) ?_
  refine lv_iadd hx hb dX1_daysMaking_8 ?_
  refine va_mmin hx hb (hml.trans hl.1.symm) hown k20 ks20 kmath kc20 (Nat.le_of_ble_eq_true rfl) (Nat.le_of_ble_eq_true rfl) (Nat.zero_le _) (Nat.zero_le _) dX1_daysMaking_9 ?_
  refine lv_istore (lv' := [(5, .int (if ((p4 / (64 : Int32)) + (1 : Int32)) < (94 : Int32) then ((p4 / (64 : Int32)) + (1 : Int32)) else (94 : Int32))), (0, .ref h0), (1, .ref g1), (2, .int p2), (3, .int p3), (4, .int p4)]) hx hb dX1_daysMaking_12 hl (by decide) rfl (fun ls hl => ?_)
  refine lv_iconst (v := 1) hx hb dX1_daysMaking_14 (by decide) ?_
  refine lv_istore (lv' := [(6, .int (1 : Int32)), (5, .int (if ((p4 / (64 : Int32)) + (1 : Int32)) < (94 : Int32) then ((p4 / (64 : Int32)) + (1 : Int32)) else (94 : Int32))), (0, .ref h0), (1, .ref g1), (2, .int p2), (3, .int p3), (4, .int p4)]) hx hb dX1_daysMaking_15 hl (by decide) rfl (fun ls hl => ?_)
  have L17 : ∀ (n : Nat) (x6_17 : Int32) (v_times_17 : Nat → Nat → Int64) (v_rest_17 : Nat → Int64) (H : Heap) (locs : List Loc) (ls : Array Slot), f1_daysMaking_L17 N p2 p3 p4 w1_parts w1_rate w1_near n x6_17 v_times_17 v_rest_17 = some (r, nv_times, nv_rest) → va_P D vwCl ([(h0, .inr (1, [.ref h0_times, .ref h0_rest])), (h0_times, .inl (cy 6, 287, gO 287 rh0_times)), (h0_rest, .inl (cy 3, 94, .inr (.inl v_rest_17))), (g1, .inr (0, [.int w1_parts, og1_1, og1_2, og1_3, og1_4, og1_5, og1_6, .ref g1_rate, .ref g1_near, og1_9, og1_10, og1_11, og1_12])), (g1_rate, .inl (cy 2, 7, .inl w1_rate)), (g1_near, .inl (cy 2, 7, .inl w1_near))] ++ (gWL rh0_times 287 94 (cy 3) v_times_17)) H → va_D A ([(h0, .inr (1, [.ref h0_times, .ref h0_rest])), (h0_times, .inl (cy 6, 287, gO 287 rh0_times)), (h0_rest, .inl (cy 3, 94, .inr (.inl v_rest_17))), (g1, .inr (0, [.int w1_parts, og1_1, og1_2, og1_3, og1_4, og1_5, og1_6, .ref g1_rate, .ref g1_near, og1_9, og1_10, og1_11, og1_12])), (g1_rate, .inl (cy 2, 7, .inl w1_rate)), (g1_near, .inl (cy 2, 7, .inl w1_near))] ++ (gWL rh0_times 287 94 (cy 3) v_times_17)) → va_S A s.heap H locs → lv_has ls 8 [(0, .ref h0), (1, .ref g1), (2, .int p2), (3, .int p3), (4, .int p4), (5, .int (if ((p4 / (64 : Int32)) + (1 : Int32)) < (94 : Int32) then ((p4 / (64 : Int32)) + (1 : Int32)) else (94 : Int32))), (6, .int x6_17)] → W p l e r1_daysMaking s m args below meth c H locs 0 0 Q (F0 m 17 ls []) := by
    intro n
    induction n with
    | zero =>
      intro x6_17 v_times_17 v_rest_17 H locs ls hM
      exact absurd hM (by simp [f1_daysMaking_L17])
    | succ n ih =>
      intro x6_17 v_times_17 v_rest_17 H locs ls hM hP hD hS hl
      rw [f1_daysMaking_L17] at hM
      refine lv_iload hx hb dX1_daysMaking_17 (lv_at hl 6 rfl) ?_
      refine lv_bipush (v := 40) hx hb dX1_daysMaking_19 (by decide) ?_
      refine lv_icmp_gt (tgt := 98) hx hb dX1_daysMaking_21 (by decide) (fun c21 => ?_) (fun c21 => ?_)
      · have hM := g_pos c21 hM
        refine lv_iconst (v := -1) hx hb dX1_daysMaking_98 (by decide) ?_
        obtain ⟨rfl, rfl, rfl⟩ := si3 hM
        exact hret _ _ _ _ _ dX1_daysMaking_99 rfl rfl hP hD hS
      · have hM := g_neg c21 hM
        refine lv_iconst (v := 0) hx hb dX1_daysMaking_24 (by decide) ?_
        refine lv_istore (lv' := [(7, .int (0 : Int32)), (0, .ref h0), (1, .ref g1), (2, .int p2), (3, .int p3), (4, .int p4), (5, .int (if ((p4 / (64 : Int32)) + (1 : Int32)) < (94 : Int32) then ((p4 / (64 : Int32)) + (1 : Int32)) else (94 : Int32))), (6, .int x6_17)]) hx hb dX1_daysMaking_25 hl (by decide) rfl (fun ls hl => ?_)
        have L27 : ∀ (n : Nat) (x7_27 : Int32) (v_times_27 : Nat → Nat → Int64) (v_rest_27 : Nat → Int64) (v_times_e27 : Nat → Nat → Int64) (v_rest_e27 : Nat → Int64) (H : Heap) (locs : List Loc) (ls : Array Slot), f1_daysMaking_L27 N p3 p4 w1_parts w1_rate w1_near x6_17 n x7_27 v_times_27 v_rest_27 = some (v_times_e27, v_rest_e27) → va_P D vwCl ([(h0, .inr (1, [.ref h0_times, .ref h0_rest])), (h0_times, .inl (cy 6, 287, gO 287 rh0_times)), (h0_rest, .inl (cy 3, 94, .inr (.inl v_rest_27))), (g1, .inr (0, [.int w1_parts, og1_1, og1_2, og1_3, og1_4, og1_5, og1_6, .ref g1_rate, .ref g1_near, og1_9, og1_10, og1_11, og1_12])), (g1_rate, .inl (cy 2, 7, .inl w1_rate)), (g1_near, .inl (cy 2, 7, .inl w1_near))] ++ (gWL rh0_times 287 94 (cy 3) v_times_27)) H → va_D A ([(h0, .inr (1, [.ref h0_times, .ref h0_rest])), (h0_times, .inl (cy 6, 287, gO 287 rh0_times)), (h0_rest, .inl (cy 3, 94, .inr (.inl v_rest_27))), (g1, .inr (0, [.int w1_parts, og1_1, og1_2, og1_3, og1_4, og1_5, og1_6, .ref g1_rate, .ref g1_near, og1_9, og1_10, og1_11, og1_12])), (g1_rate, .inl (cy 2, 7, .inl w1_rate)), (g1_near, .inl (cy 2, 7, .inl w1_near))] ++ (gWL rh0_times 287 94 (cy 3) v_times_27)) → va_S A s.heap H locs → lv_has ls 8 [(0, .ref h0), (1, .ref g1), (2, .int p2), (3, .int p3), (4, .int p4), (5, .int (if ((p4 / (64 : Int32)) + (1 : Int32)) < (94 : Int32) then ((p4 / (64 : Int32)) + (1 : Int32)) else (94 : Int32))), (6, .int x6_17), (7, .int x7_27)] → (∀ (H : Heap) (locs : List Loc) (ls : Array Slot), va_P D vwCl ([(h0, .inr (1, [.ref h0_times, .ref h0_rest])), (h0_times, .inl (cy 6, 287, gO 287 rh0_times)), (h0_rest, .inl (cy 3, 94, .inr (.inl v_rest_e27))), (g1, .inr (0, [.int w1_parts, og1_1, og1_2, og1_3, og1_4, og1_5, og1_6, .ref g1_rate, .ref g1_near, og1_9, og1_10, og1_11, og1_12])), (g1_rate, .inl (cy 2, 7, .inl w1_rate)), (g1_near, .inl (cy 2, 7, .inl w1_near))] ++ (gWL rh0_times 287 94 (cy 3) v_times_e27)) H → va_D A ([(h0, .inr (1, [.ref h0_times, .ref h0_rest])), (h0_times, .inl (cy 6, 287, gO 287 rh0_times)), (h0_rest, .inl (cy 3, 94, .inr (.inl v_rest_e27))), (g1, .inr (0, [.int w1_parts, og1_1, og1_2, og1_3, og1_4, og1_5, og1_6, .ref g1_rate, .ref g1_near, og1_9, og1_10, og1_11, og1_12])), (g1_rate, .inl (cy 2, 7, .inl w1_rate)), (g1_near, .inl (cy 2, 7, .inl w1_near))] ++ (gWL rh0_times 287 94 (cy 3) v_times_e27)) → va_S A s.heap H locs → lv_has ls 8 [(0, .ref h0), (1, .ref g1), (2, .int p2), (3, .int p3), (4, .int p4), (5, .int (if ((p4 / (64 : Int32)) + (1 : Int32)) < (94 : Int32) then ((p4 / (64 : Int32)) + (1 : Int32)) else (94 : Int32))), (6, .int x6_17)] → W p l e r1_daysMaking s m args below meth c H locs 0 0 Q (F0 m 77 ls [])) → W p l e r1_daysMaking s m args below meth c H locs 0 0 Q (F0 m 27 ls []) := by
          intro n
          induction n with
          | zero =>
            intro x7_27 v_times_27 v_rest_27 v_times_e27 v_rest_e27 H locs ls hM
            exact absurd hM (by simp [f1_daysMaking_L27])
          | succ n ih =>
            intro x7_27 v_times_27 v_rest_27 v_times_e27 v_rest_e27 H locs ls hM hP hD hS hl K
            rw [f1_daysMaking_L27] at hM
            refine lv_iload hx hb dX1_daysMaking_27 (lv_at hl 7 rfl) ?_
            refine lv_bipush (v := 7) hx hb dX1_daysMaking_29 (by decide) ?_
            refine lv_icmp_ge (tgt := 77) hx hb dX1_daysMaking_31 (by decide) (fun c31 => ?_) (fun c31 => ?_)
            · have hM := g_pos c31 hM
              obtain ⟨rfl, rfl⟩ := si2 hM
              exact K _ _ _ hP hD hS (lv_sub hl [0, 1, 2, 3, 4, 5, 6] rfl)
            · have hM := g_neg c31 hM
              refine lv_aload_n hx hb dX1_daysMaking_34 rfl (lv_at hl 1 rfl) ?_
              refine lv_iload hx hb dX1_daysMaking_35 (lv_at hl 7 rfl) ?_
              obtain ⟨r37, hc37, hM⟩ := ob1_some hM
              refine cg_vi (As := [.int x7_27]) (rest := []) (ci := 0) (q0 := 3) (wr := ([(h0, .inr (1, [.ref h0_times, .ref h0_rest])), (h0_times, .inl (cy 6, 287, gO 287 rh0_times)), (h0_rest, .inl (cy 3, 94, .inr (.inl v_rest_27))), (g1_rate, .inl (cy 2, 7, .inl w1_rate)), (g1_near, .inl (cy 2, 7, .inl w1_near))] ++ (gWL rh0_times 287 94 (cy 3) v_times_27))) (ws2 := ([(h0, .inr (1, [.ref h0_times, .ref h0_rest])), (h0_times, .inl (cy 6, 287, gO 287 rh0_times)), (h0_rest, .inl (cy 3, 94, .inr (.inl v_rest_27))), (g1, .inr (0, [.int w1_parts, og1_1, og1_2, og1_3, og1_4, og1_5, og1_6, .ref g1_rate, .ref g1_near, og1_9, og1_10, og1_11, og1_12])), (g1_rate, .inl (cy 2, 7, .inl w1_rate)), (g1_near, .inl (cy 2, 7, .inl w1_near))] ++ (gWL rh0_times 287 94 (cy 3) v_times_27))) hx hb hml hown hts (c0_hasPart l D cy N g1 og1_1 og1_2 og1_3 og1_4 og1_5 og1_6 (.ref g1_rate) (.ref g1_near) og1_9 og1_10 og1_11 og1_12 x7_27 w1_parts r37 hc37) (cwV 1 hts gX1_daysMaking_X0_hasPart rfl rfl rfl (by decide +kernel) ⟨Nat.le_of_ble_eq_true rfl, Nat.le_of_ble_eq_true rfl⟩) hK hP hD hS hA rfl rfl (pm_Q (pm_x [0, 1, 2, 4, 5, 3] rfl rfl)) (pm_Q (pm_x [0, 1, 2, 4, 5, 3] rfl rfl)).symm rfl rfl hl.1 (Nat.le_of_ble_eq_true rfl) dX1_daysMaking_37 ⟨Nat.zero_le _, Nat.zero_le _⟩ (fun H locs hP hD hS => ?_)
              refine lv_if_eq (tgt := 71) hx hb dX1_daysMaking_40 (by decide) (fun c40 => ?_) (fun c40 => ?_)
              · have hM := g_pos c40 hM
                refine lv_iinc (v := x7_27 + (1 : Int32)) (lv' := [(7, .int (x7_27 + (1 : Int32))), (0, .ref h0), (1, .ref g1), (2, .int p2), (3, .int p3), (4, .int p4), (5, .int (if ((p4 / (64 : Int32)) + (1 : Int32)) < (94 : Int32) then ((p4 / (64 : Int32)) + (1 : Int32)) else (94 : Int32))), (6, .int x6_17)]) hx hb dX1_daysMaking_71 hl (k := 7) rfl rfl (by decide) rfl (fun ls hl => ?_)
                refine lv_goto (tgt := 27) hx hb dX1_daysMaking_74 (by decide) ?_
                exact ih (x7_27 + (1 : Int32)) v_times_27 v_rest_27 v_times_e27 v_rest_e27 _ _ _ hM hP hD hS (lv_sub hl [1, 2, 3, 4, 5, 6, 7, 0] rfl) K
              · have hM := g_neg c40 hM
                refine lv_aload_n hx hb dX1_daysMaking_43 rfl (lv_at hl 0 rfl) ?_
                refine lv_aload_n hx hb dX1_daysMaking_44 rfl (lv_at hl 1 rfl) ?_
                refine lv_iload_n hx hb dX1_daysMaking_45 rfl (lv_at hl 3 rfl) ?_
                refine lv_iload hx hb dX1_daysMaking_46 (lv_at hl 6 rfl) ?_
                refine lv_iload hx hb dX1_daysMaking_48 (lv_at hl 7 rfl) ?_
                refine lv_iload hx hb dX1_daysMaking_50 (lv_at hl 5 rfl) ?_
                obtain ⟨v_rest_52, hc52, hM⟩ := ob1_some hM
                refine cg_vv (As := [.ref g1, .int p3, .int x6_17, .int x7_27, .int (if ((p4 / (64 : Int32)) + (1 : Int32)) < (94 : Int32) then ((p4 / (64 : Int32)) + (1 : Int32)) else (94 : Int32))]) (rest := []) (ci := 1) (q0 := 0) (wr := [(g1_rate, .inl (cy 2, 7, .inl w1_rate))]) (ws2 := ([(h0, .inr (1, [.ref h0_times, .ref h0_rest])), (h0_times, .inl (cy 6, 287, gO 287 rh0_times)), (h0_rest, .inl (cy 3, 94, .inr (.inl v_rest_52))), (g1, .inr (0, [.int w1_parts, og1_1, og1_2, og1_3, og1_4, og1_5, og1_6, .ref g1_rate, .ref g1_near, og1_9, og1_10, og1_11, og1_12])), (g1_rate, .inl (cy 2, 7, .inl w1_rate)), (g1_near, .inl (cy 2, 7, .inl w1_near))] ++ (gWL rh0_times 287 94 (cy 3) v_times_27))) hx hb hml hown hts (c1_layRest l D cy N rh0_times h0 h0_times h0_rest g1 g1_near og1_1 og1_2 og1_3 og1_4 og1_5 og1_6 (.ref g1_rate) og1_9 og1_10 og1_11 og1_12 p3 x6_17 x7_27 (if ((p4 / (64 : Int32)) + (1 : Int32)) < (94 : Int32) then ((p4 / (64 : Int32)) + (1 : Int32)) else (94 : Int32)) v_times_27 v_rest_27 w1_parts w1_near v_rest_52 hc52) (cwV 5 hts gX1_daysMaking_X1_layRest rfl rfl rfl (by decide +kernel) ⟨Nat.le_of_ble_eq_true rfl, Nat.le_of_ble_eq_true rfl⟩) hK hP hD hS hA rfl rfl (pm_P (pm_x [4, 0, 1, 2, 3, 5] rfl rfl)) (pm_P (pm_x [4, 0, 1, 2, 3, 5] rfl rfl)).symm rfl rfl hl.1 (Nat.le_of_ble_eq_true rfl) dX1_daysMaking_52 ⟨Nat.zero_le _, Nat.zero_le _⟩ (fun H locs hP hD hS => ?_)
                refine lv_aload_n hx hb dX1_daysMaking_55 rfl (lv_at hl 0 rfl) ?_
                refine lv_iload hx hb dX1_daysMaking_56 (lv_at hl 6 rfl) ?_
                refine lv_iload hx hb dX1_daysMaking_58 (lv_at hl 7 rfl) ?_
                refine lv_aload_n hx hb dX1_daysMaking_60 rfl (lv_at hl 1 rfl) ?_
                refine lv_iload hx hb dX1_daysMaking_61 (lv_at hl 7 rfl) ?_
                obtain ⟨r63, hc63, hM⟩ := ob1_some hM
                refine cg_vi (As := [.int x7_27]) (rest := [.int x7_27, .int x6_17, .ref h0]) (ci := 0) (q0 := 3) (wr := ([(h0, .inr (1, [.ref h0_times, .ref h0_rest])), (h0_times, .inl (cy 6, 287, gO 287 rh0_times)), (h0_rest, .inl (cy 3, 94, .inr (.inl v_rest_52))), (g1_near, .inl (cy 2, 7, .inl w1_near))] ++ (gWL rh0_times 287 94 (cy 3) v_times_27))) (ws2 := ([(h0, .inr (1, [.ref h0_times, .ref h0_rest])), (h0_times, .inl (cy 6, 287, gO 287 rh0_times)), (h0_rest, .inl (cy 3, 94, .inr (.inl v_rest_52))), (g1, .inr (0, [.int w1_parts, og1_1, og1_2, og1_3, og1_4, og1_5, og1_6, .ref g1_rate, .ref g1_near, og1_9, og1_10, og1_11, og1_12])), (g1_rate, .inl (cy 2, 7, .inl w1_rate)), (g1_near, .inl (cy 2, 7, .inl w1_near))] ++ (gWL rh0_times 287 94 (cy 3) v_times_27))) hx hb hml hown hts (c0_rateOf l D cy N g1 g1_rate og1_1 og1_2 og1_3 og1_4 og1_5 og1_6 (.ref g1_near) og1_9 og1_10 og1_11 og1_12 x7_27 w1_parts w1_rate r63 hc63) (cwV 1 hts gX1_daysMaking_X0_rateOf rfl rfl rfl (by decide +kernel) ⟨Nat.le_of_ble_eq_true rfl, Nat.le_of_ble_eq_true rfl⟩) hK hP hD hS hA rfl rfl (pm_Q (pm_x [0, 1, 2, 5, 3, 4] rfl rfl)) (pm_Q (pm_x [0, 1, 2, 5, 3, 4] rfl rfl)).symm rfl rfl hl.1 (Nat.le_of_ble_eq_true rfl) dX1_daysMaking_63 ⟨Nat.zero_le _, Nat.zero_le _⟩ (fun H locs hP hD hS => ?_)
                refine lv_iload hx hb dX1_daysMaking_66 (lv_at hl 5 rfl) ?_
                obtain ⟨v_times_68, hc68, hM⟩ := ob1_some hM
                refine cg_vv (As := [.int x6_17, .int x7_27, .int r63, .int (if ((p4 / (64 : Int32)) + (1 : Int32)) < (94 : Int32) then ((p4 / (64 : Int32)) + (1 : Int32)) else (94 : Int32))]) (rest := []) (ci := 1) (q0 := 0) (wr := [(g1, .inr (0, [.int w1_parts, og1_1, og1_2, og1_3, og1_4, og1_5, og1_6, .ref g1_rate, .ref g1_near, og1_9, og1_10, og1_11, og1_12])), (g1_rate, .inl (cy 2, 7, .inl w1_rate)), (g1_near, .inl (cy 2, 7, .inl w1_near))]) (ws2 := ([(h0, .inr (1, [.ref h0_times, .ref h0_rest])), (h0_times, .inl (cy 6, 287, gO 287 rh0_times)), (h0_rest, .inl (cy 3, 94, .inr (.inl v_rest_52))), (g1, .inr (0, [.int w1_parts, og1_1, og1_2, og1_3, og1_4, og1_5, og1_6, .ref g1_rate, .ref g1_near, og1_9, og1_10, og1_11, og1_12])), (g1_rate, .inl (cy 2, 7, .inl w1_rate)), (g1_near, .inl (cy 2, 7, .inl w1_near))] ++ (gWL rh0_times 287 94 (cy 3) v_times_68))) hx hb hml hown hts (c1_layShifted l D cy N rh0_times h0 h0_times h0_rest x6_17 x7_27 r63 (if ((p4 / (64 : Int32)) + (1 : Int32)) < (94 : Int32) then ((p4 / (64 : Int32)) + (1 : Int32)) else (94 : Int32)) v_times_27 v_rest_52 v_times_68 hc68) (cwV 4 hts gX1_daysMaking_X1_layShifted rfl rfl rfl (by decide +kernel) ⟨Nat.le_of_ble_eq_true rfl, Nat.le_of_ble_eq_true rfl⟩) hK hP hD hS hA rfl rfl (pm_P (pm_x [3, 4, 5, 0, 1, 2] rfl rfl)) (pm_P (pm_x [3, 4, 5, 0, 1, 2] rfl rfl)).symm rfl rfl hl.1 (Nat.le_of_ble_eq_true rfl) dX1_daysMaking_68 ⟨Nat.zero_le _, Nat.zero_le _⟩ (fun H locs hP hD hS => ?_)
                refine lv_iinc (v := x7_27 + (1 : Int32)) (lv' := [(7, .int (x7_27 + (1 : Int32))), (0, .ref h0), (1, .ref g1), (2, .int p2), (3, .int p3), (4, .int p4), (5, .int (if ((p4 / (64 : Int32)) + (1 : Int32)) < (94 : Int32) then ((p4 / (64 : Int32)) + (1 : Int32)) else (94 : Int32))), (6, .int x6_17)]) hx hb dX1_daysMaking_71 hl (k := 7) rfl rfl (by decide) rfl (fun ls hl => ?_)
                refine lv_goto (tgt := 27) hx hb dX1_daysMaking_74 (by decide) ?_
                exact ih (x7_27 + (1 : Int32)) v_times_68 v_rest_52 v_times_e27 v_rest_e27 _ _ _ hM hP hD hS (lv_sub hl [1, 2, 3, 4, 5, 6, 7, 0] rfl) K
        obtain ⟨v_times_e27, v_rest_e27, hL27, hM⟩ := ob2_some hM
        refine L27 N (0 : Int32) v_times_17 v_rest_17 v_times_e27 v_rest_e27 _ _ _ hL27 hP hD hS (lv_sub hl [1, 2, 3, 4, 5, 6, 7, 0] rfl) ?_
        intro H locs ls hP hD hS hl
        refine lv_aload_n hx hb dX1_daysMaking_77 rfl (lv_at hl 0 rfl) ?_
        refine lv_iload hx hb dX1_daysMaking_78 (lv_at hl 6 rfl) ?_
        refine lv_iload_n hx hb dX1_daysMaking_80 rfl (lv_at hl 2 rfl) ?_
        refine lv_iload hx hb dX1_daysMaking_81 (lv_at hl 4 rfl) ?_
        obtain ⟨r83, hc83, hM⟩ := ob1_some hM
        refine cg_vi (As := [.int x6_17, .int p2, .int p4]) (rest := []) (ci := 1) (q0 := 0) (wr := [(h0_rest, .inl (cy 3, 94, .inr (.inl v_rest_e27))), (g1, .inr (0, [.int w1_parts, og1_1, og1_2, og1_3, og1_4, og1_5, og1_6, .ref g1_rate, .ref g1_near, og1_9, og1_10, og1_11, og1_12])), (g1_rate, .inl (cy 2, 7, .inl w1_rate)), (g1_near, .inl (cy 2, 7, .inl w1_near))]) (ws2 := ([(h0, .inr (1, [.ref h0_times, .ref h0_rest])), (h0_times, .inl (cy 6, 287, gO 287 rh0_times)), (h0_rest, .inl (cy 3, 94, .inr (.inl v_rest_e27))), (g1, .inr (0, [.int w1_parts, og1_1, og1_2, og1_3, og1_4, og1_5, og1_6, .ref g1_rate, .ref g1_near, og1_9, og1_10, og1_11, og1_12])), (g1_rate, .inl (cy 2, 7, .inl w1_rate)), (g1_near, .inl (cy 2, 7, .inl w1_near))] ++ (gWL rh0_times 287 94 (cy 3) v_times_e27))) hx hb hml hown hts (c1_canMake l D cy N rh0_times h0 h0_times (.ref h0_rest) x6_17 p2 p4 v_times_e27 r83 hc83) (cwV 3 hts gX1_daysMaking_X1_canMake rfl rfl rfl (by decide +kernel) ⟨Nat.le_of_ble_eq_true rfl, Nat.le_of_ble_eq_true rfl⟩) hK hP hD hS hA rfl rfl (pm_P (pm_x [2, 3, 4, 5, 0, 1] rfl rfl)) (pm_P (pm_x [2, 3, 4, 5, 0, 1] rfl rfl)).symm rfl rfl hl.1 (Nat.le_of_ble_eq_true rfl) dX1_daysMaking_83 ⟨Nat.zero_le _, Nat.zero_le _⟩ (fun H locs hP hD hS => ?_)
        refine lv_if_eq (tgt := 92) hx hb dX1_daysMaking_86 (by decide) (fun c86 => ?_) (fun c86 => ?_)
        · have hM := g_pos c86 hM
          refine lv_iinc (v := x6_17 + (1 : Int32)) (lv' := [(6, .int (x6_17 + (1 : Int32))), (0, .ref h0), (1, .ref g1), (2, .int p2), (3, .int p3), (4, .int p4), (5, .int (if ((p4 / (64 : Int32)) + (1 : Int32)) < (94 : Int32) then ((p4 / (64 : Int32)) + (1 : Int32)) else (94 : Int32)))]) hx hb dX1_daysMaking_92 hl (k := 6) rfl rfl (by decide) rfl (fun ls hl => ?_)
          refine lv_goto (tgt := 17) hx hb dX1_daysMaking_95 (by decide) ?_
          exact ih (x6_17 + (1 : Int32)) v_times_e27 v_rest_e27 _ _ _ hM hP hD hS (lv_sub hl [1, 2, 3, 4, 5, 6, 0] rfl)
        · have hM := g_neg c86 hM
          refine lv_iload hx hb dX1_daysMaking_89 (lv_at hl 6 rfl) ?_
          obtain ⟨rfl, rfl, rfl⟩ := si3 hM
          exact hret _ _ _ _ _ dX1_daysMaking_91 rfl rfl hP hD hS
  exact L17 N (1 : Int32) v_times v_rest _ _ _ hM hP hD hS (lv_sub hl [2, 3, 4, 5, 6, 1, 0] rfl)

-- ===== X1_firstMaking firstMaking (LCaveYears$Cave;III)I =====
abbrev r1_firstMaking : Room := { frames := 3, cells := 0, slots := 0, locals := 65 }
def f1_firstMaking_L3 (N : Nat) (p2 : Int32) (p3 : Int32) (p4 : Int32) (v_times : Nat → Nat → Int64) (w1_parts : Int32) (w1_near : Nat → Int32) : Nat → Int32 → Option Int32
  | 0, _ => none
  | n + 1, x5_3 => if (7 : Int32) ≤ x5_3 then (some (-1 : Int32)) else (ob1 (f0_mayFollow N p2 x5_3 w1_parts w1_near) fun r14 => if r14 = (0 : Int32) then ((f1_firstMaking_L3 N p2 p3 p4 v_times w1_parts w1_near n) (x5_3 + (1 : Int32))) else (ob1 (f1_canMake N p3 x5_3 p4 v_times) fun r26 => if r26 = (0 : Int32) then ((f1_firstMaking_L3 N p2 p3 p4 v_times w1_parts w1_near n) (x5_3 + (1 : Int32))) else (some x5_3)))
def f1_firstMaking (N : Nat) (p2 : Int32) (p3 : Int32) (p4 : Int32) (v_times : Nat → Nat → Int64) (w1_parts : Int32) (w1_near : Nat → Int32) : Option Int32 :=
  f1_firstMaking_L3 N p2 p3 p4 v_times w1_parts w1_near N (0 : Int32)
set_option maxHeartbeats 4000000 in
set_option maxRecDepth 100000 in
theorem c1_firstMaking (l : Launch) (D : va_G) (cy : Nat → ClassId) (N : Nat) (rh0_times : Nat → Nat) (h0 h0_times g1 g1_near : Nat) (oh0_1 og1_1 og1_2 og1_3 og1_4 og1_5 og1_6 og1_7 og1_9 og1_10 og1_11 og1_12 : Value) (p2 : Int32) (p3 : Int32) (p4 : Int32) (v_times : Nat → Nat → Int64) (w1_parts : Int32) (w1_near : Nat → Int32) (r : Int32) (hM : f1_firstMaking N p2 p3 p4 v_times w1_parts w1_near = some r) (sz : Nat) : CTi l yX1_firstMaking wsX1_firstMaking r1_firstMaking [.ref h0, .ref g1, .int p2, .int p3, .int p4] D cy sz ([(h0, .inr (1, [.ref h0_times, oh0_1])), (h0_times, .inl (cy 6, 287, gO 287 rh0_times)), (g1, .inr (0, [.int w1_parts, og1_1, og1_2, og1_3, og1_4, og1_5, og1_6, og1_7, .ref g1_near, og1_9, og1_10, og1_11, og1_12])), (g1_near, .inl (cy 2, 7, .inl w1_near))] ++ (gWL rh0_times 287 94 (cy 3) v_times)) ([(h0, .inr (1, [.ref h0_times, oh0_1])), (h0_times, .inl (cy 6, 287, gO 287 rh0_times)), (g1, .inr (0, [.int w1_parts, og1_1, og1_2, og1_3, og1_4, og1_5, og1_6, og1_7, .ref g1_near, og1_9, og1_10, og1_11, og1_12])), (g1_near, .inl (cy 2, 7, .inl w1_near))] ++ (gWL rh0_times 287 94 (cy 3) v_times)) r := by
  unfold f1_firstMaking at hM
  refine ct_oi (cc := cX1_firstMaking) (maxL := 6) (ty := .int) (by decide +kernel) rfl (Nat.le_of_ble_eq_true rfl) (lv0 := [(0, .ref h0), (1, .ref g1), (2, .int p2), (3, .int p3), (4, .int p4)]) rfl ?_
  intro p e s m args below meth c A Q ls hx hb hts hown hml hK hP hD hS hA hret hl
  have hown : s.vm.findClass RX1 = some m.cls := hown
  refine lv_iconst (v := 0) hx hb dX1_firstMaking_0 (by decide) ?_
  refine lv_istore (lv' := [(5, .int (0 : Int32)), (0, .ref h0), (1, .ref g1), (2, .int p2), (3, .int p3), (4, .int p4)]) hx hb dX1_firstMaking_1 hl (by decide) rfl (fun ls hl => ?_)
  have L3 : ∀ (n : Nat) (x5_3 : Int32) (H : Heap) (locs : List Loc) (ls : Array Slot), f1_firstMaking_L3 N p2 p3 p4 v_times w1_parts w1_near n x5_3 = some r → va_P D vwCl ([(h0, .inr (1, [.ref h0_times, oh0_1])), (h0_times, .inl (cy 6, 287, gO 287 rh0_times)), (g1, .inr (0, [.int w1_parts, og1_1, og1_2, og1_3, og1_4, og1_5, og1_6, og1_7, .ref g1_near, og1_9, og1_10, og1_11, og1_12])), (g1_near, .inl (cy 2, 7, .inl w1_near))] ++ (gWL rh0_times 287 94 (cy 3) v_times)) H → va_D A ([(h0, .inr (1, [.ref h0_times, oh0_1])), (h0_times, .inl (cy 6, 287, gO 287 rh0_times)), (g1, .inr (0, [.int w1_parts, og1_1, og1_2, og1_3, og1_4, og1_5, og1_6, og1_7, .ref g1_near, og1_9, og1_10, og1_11, og1_12])), (g1_near, .inl (cy 2, 7, .inl w1_near))] ++ (gWL rh0_times 287 94 (cy 3) v_times)) → va_S A s.heap H locs → lv_has ls 6 [(0, .ref h0), (1, .ref g1), (2, .int p2), (3, .int p3), (4, .int p4), (5, .int x5_3)] → W p l e r1_firstMaking s m args below meth c H locs 0 0 Q (F0 m 3 ls []) := by
    intro n
    induction n with
    | zero =>
      intro x5_3 H locs ls hM
      exact absurd hM (by simp [f1_firstMaking_L3])
    | succ n ih =>
      intro x5_3 H locs ls hM hP hD hS hl
      rw [f1_firstMaking_L3] at hM
      refine lv_iload hx hb dX1_firstMaking_3 (lv_at hl 5 rfl) ?_
      refine lv_bipush (v := 7) hx hb dX1_firstMaking_5 (by decide) ?_
      refine lv_icmp_ge (tgt := 41) hx hb dX1_firstMaking_7 (by decide) (fun c7 => ?_) (fun c7 => ?_)
      · have hM := g_pos c7 hM
        refine lv_iconst (v := -1) hx hb dX1_firstMaking_41 (by decide) ?_
        obtain rfl := si1 hM
        exact hret _ _ _ _ _ dX1_firstMaking_42 rfl rfl hP hD hS
      · have hM := g_neg c7 hM
        refine lv_aload_n hx hb dX1_firstMaking_10 rfl (lv_at hl 1 rfl) ?_
        refine lv_iload_n hx hb dX1_firstMaking_11 rfl (lv_at hl 2 rfl) ?_
        refine lv_iload hx hb dX1_firstMaking_12 (lv_at hl 5 rfl) ?_
        obtain ⟨r14, hc14, hM⟩ := ob1_some hM
        refine cg_vi (As := [.int p2, .int x5_3]) (rest := []) (ci := 0) (q0 := 2) (wr := ([(h0, .inr (1, [.ref h0_times, oh0_1])), (h0_times, .inl (cy 6, 287, gO 287 rh0_times))] ++ (gWL rh0_times 287 94 (cy 3) v_times))) (ws2 := ([(h0, .inr (1, [.ref h0_times, oh0_1])), (h0_times, .inl (cy 6, 287, gO 287 rh0_times)), (g1, .inr (0, [.int w1_parts, og1_1, og1_2, og1_3, og1_4, og1_5, og1_6, og1_7, .ref g1_near, og1_9, og1_10, og1_11, og1_12])), (g1_near, .inl (cy 2, 7, .inl w1_near))] ++ (gWL rh0_times 287 94 (cy 3) v_times))) hx hb hml hown hts (c0_mayFollow l D cy N g1 g1_near og1_1 og1_2 og1_3 og1_4 og1_5 og1_6 og1_7 og1_9 og1_10 og1_11 og1_12 p2 x5_3 w1_parts w1_near r14 hc14) (cwV 2 hts gX1_firstMaking_X0_mayFollow rfl rfl rfl (by decide +kernel) ⟨Nat.le_of_ble_eq_true rfl, Nat.le_of_ble_eq_true rfl⟩) hK hP hD hS hA rfl rfl (pm_Q (pm_x [0, 1, 2, 3] rfl rfl)) (pm_Q (pm_x [0, 1, 2, 3] rfl rfl)).symm rfl rfl hl.1 (Nat.le_of_ble_eq_true rfl) dX1_firstMaking_14 ⟨Nat.zero_le _, Nat.zero_le _⟩ (fun H locs hP hD hS => ?_)
        refine lv_if_eq (tgt := 35) hx hb dX1_firstMaking_17 (by decide) (fun c17 => ?_) (fun c17 => ?_)
        · have hM := g_pos c17 hM
          refine lv_iinc (v := x5_3 + (1 : Int32)) (lv' := [(5, .int (x5_3 + (1 : Int32))), (0, .ref h0), (1, .ref g1), (2, .int p2), (3, .int p3), (4, .int p4)]) hx hb dX1_firstMaking_35 hl (k := 5) rfl rfl (by decide) rfl (fun ls hl => ?_)
          refine lv_goto (tgt := 3) hx hb dX1_firstMaking_38 (by decide) ?_
          exact ih (x5_3 + (1 : Int32)) _ _ _ hM hP hD hS (lv_sub hl [1, 2, 3, 4, 5, 0] rfl)
        · have hM := g_neg c17 hM
          refine lv_aload_n hx hb dX1_firstMaking_20 rfl (lv_at hl 0 rfl) ?_
          refine lv_iload_n hx hb dX1_firstMaking_21 rfl (lv_at hl 3 rfl) ?_
          refine lv_iload hx hb dX1_firstMaking_22 (lv_at hl 5 rfl) ?_
          refine lv_iload hx hb dX1_firstMaking_24 (lv_at hl 4 rfl) ?_
          obtain ⟨r26, hc26, hM⟩ := ob1_some hM
          refine cg_vi (As := [.int p3, .int x5_3, .int p4]) (rest := []) (ci := 1) (q0 := 0) (wr := [(g1, .inr (0, [.int w1_parts, og1_1, og1_2, og1_3, og1_4, og1_5, og1_6, og1_7, .ref g1_near, og1_9, og1_10, og1_11, og1_12])), (g1_near, .inl (cy 2, 7, .inl w1_near))]) (ws2 := ([(h0, .inr (1, [.ref h0_times, oh0_1])), (h0_times, .inl (cy 6, 287, gO 287 rh0_times)), (g1, .inr (0, [.int w1_parts, og1_1, og1_2, og1_3, og1_4, og1_5, og1_6, og1_7, .ref g1_near, og1_9, og1_10, og1_11, og1_12])), (g1_near, .inl (cy 2, 7, .inl w1_near))] ++ (gWL rh0_times 287 94 (cy 3) v_times))) hx hb hml hown hts (c1_canMake l D cy N rh0_times h0 h0_times oh0_1 p3 x5_3 p4 v_times r26 hc26) (cwV 3 hts gX1_firstMaking_X1_canMake rfl rfl rfl (by decide +kernel) ⟨Nat.le_of_ble_eq_true rfl, Nat.le_of_ble_eq_true rfl⟩) hK hP hD hS hA rfl rfl (pm_P (pm_x [2, 3, 0, 1] rfl rfl)) (pm_P (pm_x [2, 3, 0, 1] rfl rfl)).symm rfl rfl hl.1 (Nat.le_of_ble_eq_true rfl) dX1_firstMaking_26 ⟨Nat.zero_le _, Nat.zero_le _⟩ (fun H locs hP hD hS => ?_)
          refine lv_if_eq (tgt := 35) hx hb dX1_firstMaking_29 (by decide) (fun c29 => ?_) (fun c29 => ?_)
          · have hM := g_pos c29 hM
            refine lv_iinc (v := x5_3 + (1 : Int32)) (lv' := [(5, .int (x5_3 + (1 : Int32))), (0, .ref h0), (1, .ref g1), (2, .int p2), (3, .int p3), (4, .int p4)]) hx hb dX1_firstMaking_35 hl (k := 5) rfl rfl (by decide) rfl (fun ls hl => ?_)
            refine lv_goto (tgt := 3) hx hb dX1_firstMaking_38 (by decide) ?_
            exact ih (x5_3 + (1 : Int32)) _ _ _ hM hP hD hS (lv_sub hl [1, 2, 3, 4, 5, 0] rfl)
          · have hM := g_neg c29 hM
            refine lv_iload hx hb dX1_firstMaking_32 (lv_at hl 5 rfl) ?_
            obtain rfl := si1 hM
            exact hret _ _ _ _ _ dX1_firstMaking_34 rfl rfl hP hD hS
  exact L3 N (0 : Int32) _ _ _ hM hP hD hS (lv_sub hl [1, 2, 3, 4, 5, 0] rfl)

-- ===== X1_partOfDay partOfDay (LCaveYears$Cave;IIII)I =====
abbrev r1_partOfDay : Room := { frames := 4, cells := 0, slots := 0, locals := 90 }
def f1_partOfDay_L9 (N : Nat) (p4 : Int32) (p5 : Int32) (v_times : Nat → Nat → Int64) (w1_parts : Int32) (w1_rate : Nat → Int32) (w1_near : Nat → Int32) : Nat → Int32 → Int32 → Int32 → Option Int32
  | 0, _, _, _ => none
  | n + 1, x6_9, x7_9, x8_9 => if p5 ≤ x8_9 then (some x6_9) else (if (40 : Int32) ≤ x8_9 then (some x6_9) else (ob1 (f0_rateOf N x6_9 w1_parts w1_rate) fun r28 => ob1 (f1_firstMaking N x6_9 ((p4 - (1 : Int32)) - x8_9) (x7_9 - r28) v_times w1_parts w1_near) fun r47 => (f1_partOfDay_L9 N p4 p5 v_times w1_parts w1_rate w1_near n) r47 (x7_9 - r28) (x8_9 + (1 : Int32))))
def f1_partOfDay (N : Nat) (p2 : Int32) (p3 : Int32) (p4 : Int32) (p5 : Int32) (v_times : Nat → Nat → Int64) (w1_parts : Int32) (w1_rate : Nat → Int32) (w1_near : Nat → Int32) : Option Int32 :=
  ob1 (f1_partOfDay_L9 N p4 p5 v_times w1_parts w1_rate w1_near N p2 p3 (0 : Int32)) fun e6_9 => some e6_9
set_option maxHeartbeats 4000000 in
set_option maxRecDepth 100000 in
theorem c1_partOfDay (l : Launch) (D : va_G) (cy : Nat → ClassId) (N : Nat) (rh0_times : Nat → Nat) (h0 h0_times g1 g1_rate g1_near : Nat) (oh0_1 og1_1 og1_2 og1_3 og1_4 og1_5 og1_6 og1_9 og1_10 og1_11 og1_12 : Value) (p2 : Int32) (p3 : Int32) (p4 : Int32) (p5 : Int32) (v_times : Nat → Nat → Int64) (w1_parts : Int32) (w1_rate : Nat → Int32) (w1_near : Nat → Int32) (r : Int32) (hM : f1_partOfDay N p2 p3 p4 p5 v_times w1_parts w1_rate w1_near = some r) (sz : Nat) : CTi l yX1_partOfDay wsX1_partOfDay r1_partOfDay [.ref h0, .ref g1, .int p2, .int p3, .int p4, .int p5] D cy sz ([(h0, .inr (1, [.ref h0_times, oh0_1])), (h0_times, .inl (cy 6, 287, gO 287 rh0_times)), (g1, .inr (0, [.int w1_parts, og1_1, og1_2, og1_3, og1_4, og1_5, og1_6, .ref g1_rate, .ref g1_near, og1_9, og1_10, og1_11, og1_12])), (g1_rate, .inl (cy 2, 7, .inl w1_rate)), (g1_near, .inl (cy 2, 7, .inl w1_near))] ++ (gWL rh0_times 287 94 (cy 3) v_times)) ([(h0, .inr (1, [.ref h0_times, oh0_1])), (h0_times, .inl (cy 6, 287, gO 287 rh0_times)), (g1, .inr (0, [.int w1_parts, og1_1, og1_2, og1_3, og1_4, og1_5, og1_6, .ref g1_rate, .ref g1_near, og1_9, og1_10, og1_11, og1_12])), (g1_rate, .inl (cy 2, 7, .inl w1_rate)), (g1_near, .inl (cy 2, 7, .inl w1_near))] ++ (gWL rh0_times 287 94 (cy 3) v_times)) r := by
  unfold f1_partOfDay at hM
  refine ct_oi (cc := cX1_partOfDay) (maxL := 9) (ty := .int) (by decide +kernel) rfl (Nat.le_of_ble_eq_true rfl) (lv0 := [(0, .ref h0), (1, .ref g1), (2, .int p2), (3, .int p3), (4, .int p4), (5, .int p5)]) rfl ?_
  intro p e s m args below meth c A Q ls hx hb hts hown hml hK hP hD hS hA hret hl
  have hown : s.vm.findClass RX1 = some m.cls := hown
  refine lv_iload_n hx hb dX1_partOfDay_0 rfl (lv_at hl 2 rfl) ?_
  refine lv_istore (lv' := [(6, .int p2), (0, .ref h0), (1, .ref g1), (2, .int p2), (3, .int p3), (4, .int p4), (5, .int p5)]) hx hb dX1_partOfDay_1 hl (by decide) rfl (fun ls hl => ?_)
  refine lv_iload_n hx hb dX1_partOfDay_3 rfl (lv_at hl 4 rfl) ?_
  refine lv_istore (lv' := [(7, .int p3), (6, .int p2), (0, .ref h0), (1, .ref g1), (2, .int p2), (3, .int p3), (4, .int p4), (5, .int p5)]) hx hb dX1_partOfDay_4 hl (by decide) rfl (fun ls hl => ?_)
  refine lv_iconst (v := 0) hx hb dX1_partOfDay_6 (by decide) ?_
  refine lv_istore (lv' := [(8, .int (0 : Int32)), (7, .int p3), (6, .int p2), (0, .ref h0), (1, .ref g1), (2, .int p2), (3, .int p3), (4, .int p4), (5, .int p5)]) hx hb dX1_partOfDay_7 hl (by decide) rfl (fun ls hl => ?_)
  have L9 : ∀ (n : Nat) (x6_9 : Int32) (x7_9 : Int32) (x8_9 : Int32) (e6_9 : Int32) (H : Heap) (locs : List Loc) (ls : Array Slot), f1_partOfDay_L9 N p4 p5 v_times w1_parts w1_rate w1_near n x6_9 x7_9 x8_9 = some e6_9 → va_P D vwCl ([(h0, .inr (1, [.ref h0_times, oh0_1])), (h0_times, .inl (cy 6, 287, gO 287 rh0_times)), (g1, .inr (0, [.int w1_parts, og1_1, og1_2, og1_3, og1_4, og1_5, og1_6, .ref g1_rate, .ref g1_near, og1_9, og1_10, og1_11, og1_12])), (g1_rate, .inl (cy 2, 7, .inl w1_rate)), (g1_near, .inl (cy 2, 7, .inl w1_near))] ++ (gWL rh0_times 287 94 (cy 3) v_times)) H → va_D A ([(h0, .inr (1, [.ref h0_times, oh0_1])), (h0_times, .inl (cy 6, 287, gO 287 rh0_times)), (g1, .inr (0, [.int w1_parts, og1_1, og1_2, og1_3, og1_4, og1_5, og1_6, .ref g1_rate, .ref g1_near, og1_9, og1_10, og1_11, og1_12])), (g1_rate, .inl (cy 2, 7, .inl w1_rate)), (g1_near, .inl (cy 2, 7, .inl w1_near))] ++ (gWL rh0_times 287 94 (cy 3) v_times)) → va_S A s.heap H locs → lv_has ls 9 [(0, .ref h0), (1, .ref g1), (4, .int p4), (5, .int p5), (6, .int x6_9), (7, .int x7_9), (8, .int x8_9)] → (∀ (H : Heap) (locs : List Loc) (ls : Array Slot), va_P D vwCl ([(h0, .inr (1, [.ref h0_times, oh0_1])), (h0_times, .inl (cy 6, 287, gO 287 rh0_times)), (g1, .inr (0, [.int w1_parts, og1_1, og1_2, og1_3, og1_4, og1_5, og1_6, .ref g1_rate, .ref g1_near, og1_9, og1_10, og1_11, og1_12])), (g1_rate, .inl (cy 2, 7, .inl w1_rate)), (g1_near, .inl (cy 2, 7, .inl w1_near))] ++ (gWL rh0_times 287 94 (cy 3) v_times)) H → va_D A ([(h0, .inr (1, [.ref h0_times, oh0_1])), (h0_times, .inl (cy 6, 287, gO 287 rh0_times)), (g1, .inr (0, [.int w1_parts, og1_1, og1_2, og1_3, og1_4, og1_5, og1_6, .ref g1_rate, .ref g1_near, og1_9, og1_10, og1_11, og1_12])), (g1_rate, .inl (cy 2, 7, .inl w1_rate)), (g1_near, .inl (cy 2, 7, .inl w1_near))] ++ (gWL rh0_times 287 94 (cy 3) v_times)) → va_S A s.heap H locs → lv_has ls 9 [(6, .int e6_9)] → W p l e r1_partOfDay s m args below meth c H locs 0 0 Q (F0 m 58 ls [])) → W p l e r1_partOfDay s m args below meth c H locs 0 0 Q (F0 m 9 ls []) := by
    intro n
    induction n with
    | zero =>
      intro x6_9 x7_9 x8_9 e6_9 H locs ls hM
      exact absurd hM (by simp [f1_partOfDay_L9])
    | succ n ih =>
      intro x6_9 x7_9 x8_9 e6_9 H locs ls hM hP hD hS hl K
      rw [f1_partOfDay_L9] at hM
      refine lv_iload hx hb dX1_partOfDay_9 (lv_at hl 6 rfl) ?_
      refine lv_iload hx hb dX1_partOfDay_11 (lv_at hl 3 rfl) ?_
      refine lv_icmp_ge (tgt := 58) hx hb dX1_partOfDay_13 (by decide) (fun c13 => ?_) (fun c13 => ?_)
      · have hM := g_pos c13 hM
        obtain rfl := si1 hM
        exact K _ _ _ hP hD hS (lv_sub hl [4] rfl)
      · have hM := g_neg c13 hM
        refine lv_iload hx hb dX1_partOfDay_16 (lv_at hl 6 rfl) ?_
        refine lv_bipush (v := 40) hx hb dX1_partOfDay_18 (by decide) ?_
        refine lv_icmp_ge (tgt := 58) hx hb dX1_partOfDay_20 (by decide) (fun c20 => ?_) (fun c20 => ?_)
        · have hM := g_pos c20 hM
          obtain rfl := si1 hM
          exact K _ _ _ hP hD hS (lv_sub hl [4] rfl)
        · have hM := g_neg c20 hM
          refine lv_iload hx hb dX1_partOfDay_23 (lv_at hl 5 rfl) ?_
          refine lv_aload_n hx hb dX1_partOfDay_25 rfl (lv_at hl 1 rfl) ?_
          refine lv_iload hx hb dX1_partOfDay_26 (lv_at hl 4 rfl) ?_
          obtain ⟨r28, hc28, hM⟩ := ob1_some hM
          refine cg_vi (As := [.int x6_9]) (rest := [.int x7_9]) (ci := 0) (q0 := 2) (wr := ([(h0, .inr (1, [.ref h0_times, oh0_1])), (h0_times, .inl (cy 6, 287, gO 287 rh0_times)), (g1_near, .inl (cy 2, 7, .inl w1_near))] ++ (gWL rh0_times 287 94 (cy 3) v_times))) (ws2 := ([(h0, .inr (1, [.ref h0_times, oh0_1])), (h0_times, .inl (cy 6, 287, gO 287 rh0_times)), (g1, .inr (0, [.int w1_parts, og1_1, og1_2, og1_3, og1_4, og1_5, og1_6, .ref g1_rate, .ref g1_near, og1_9, og1_10, og1_11, og1_12])), (g1_rate, .inl (cy 2, 7, .inl w1_rate)), (g1_near, .inl (cy 2, 7, .inl w1_near))] ++ (gWL rh0_times 287 94 (cy 3) v_times))) hx hb hml hown hts (c0_rateOf l D cy N g1 g1_rate og1_1 og1_2 og1_3 og1_4 og1_5 og1_6 (.ref g1_near) og1_9 og1_10 og1_11 og1_12 x6_9 w1_parts w1_rate r28 hc28) (cwV 1 hts gX1_partOfDay_X0_rateOf rfl rfl rfl (by decide +kernel) ⟨Nat.le_of_ble_eq_true rfl, Nat.le_of_ble_eq_true rfl⟩) hK hP hD hS hA rfl rfl (pm_Q (pm_x [0, 1, 4, 2, 3] rfl rfl)) (pm_Q (pm_x [0, 1, 4, 2, 3] rfl rfl)).symm rfl rfl hl.1 (Nat.le_of_ble_eq_true rfl) dX1_partOfDay_28 ⟨Nat.zero_le _, Nat.zero_le _⟩ (fun H locs hP hD hS => ?_)
          refine lv_isub hx hb dX1_partOfDay_31 ?_
          refine lv_istore (lv' := [(7, .int (x7_9 - r28)), (0, .ref h0), (1, .ref g1), (4, .int p4), (5, .int p5), (6, .int x6_9), (8, .int x8_9)]) hx hb dX1_partOfDay_32 hl (by decide) rfl (fun ls hl => ?_)
          refine lv_aload_n hx hb dX1_partOfDay_34 rfl (lv_at hl 1 rfl) ?_
          refine lv_aload_n hx hb dX1_partOfDay_35 rfl (lv_at hl 2 rfl) ?_
          refine lv_iload hx hb dX1_partOfDay_36 (lv_at hl 5 rfl) ?_
          refine lv_iload hx hb dX1_partOfDay_38 (lv_at hl 3 rfl) ?_
          refine lv_iconst (v := 1) hx hb dX1_partOfDay_40 (by decide) ?_
          refine lv_isub hx hb dX1_partOfDay_41 ?_
          refine lv_iload hx hb dX1_partOfDay_42 (lv_at hl 6 rfl) ?_
          refine lv_isub hx hb dX1_partOfDay_44 ?_
          refine lv_iload hx hb dX1_partOfDay_45 (lv_at hl 0 rfl) ?_
          obtain ⟨r47, hc47, hM⟩ := ob1_some hM
          refine cg_vi (As := [.ref g1, .int x6_9, .int ((p4 - (1 : Int32)) - x8_9), .int (x7_9 - r28)]) (rest := []) (ci := 1) (q0 := 0) (wr := [(g1_rate, .inl (cy 2, 7, .inl w1_rate))]) (ws2 := ([(h0, .inr (1, [.ref h0_times, oh0_1])), (h0_times, .inl (cy 6, 287, gO 287 rh0_times)), (g1, .inr (0, [.int w1_parts, og1_1, og1_2, og1_3, og1_4, og1_5, og1_6, .ref g1_rate, .ref g1_near, og1_9, og1_10, og1_11, og1_12])), (g1_rate, .inl (cy 2, 7, .inl w1_rate)), (g1_near, .inl (cy 2, 7, .inl w1_near))] ++ (gWL rh0_times 287 94 (cy 3) v_times))) hx hb hml hown hts (c1_firstMaking l D cy N rh0_times h0 h0_times g1 g1_near oh0_1 og1_1 og1_2 og1_3 og1_4 og1_5 og1_6 (.ref g1_rate) og1_9 og1_10 og1_11 og1_12 x6_9 ((p4 - (1 : Int32)) - x8_9) (x7_9 - r28) v_times w1_parts w1_near r47 hc47) (cwV 4 hts gX1_partOfDay_X1_firstMaking rfl rfl rfl (by decide +kernel) ⟨Nat.le_of_ble_eq_true rfl, Nat.le_of_ble_eq_true rfl⟩) hK hP hD hS hA rfl rfl (pm_P (pm_x [3, 0, 1, 2, 4] rfl rfl)) (pm_P (pm_x [3, 0, 1, 2, 4] rfl rfl)).symm rfl rfl hl.1 (Nat.le_of_ble_eq_true rfl) dX1_partOfDay_47 ⟨Nat.zero_le _, Nat.zero_le _⟩ (fun H locs hP hD hS => ?_)
          refine lv_istore (lv' := [(6, .int r47), (7, .int (x7_9 - r28)), (0, .ref h0), (1, .ref g1), (4, .int p4), (5, .int p5), (8, .int x8_9)]) hx hb dX1_partOfDay_50 hl (by decide) rfl (fun ls hl => ?_)
          refine lv_iinc (v := x8_9 + (1 : Int32)) (lv' := [(8, .int (x8_9 + (1 : Int32))), (6, .int r47), (7, .int (x7_9 - r28)), (0, .ref h0), (1, .ref g1), (4, .int p4), (5, .int p5)]) hx hb dX1_partOfDay_52 hl (k := 6) rfl rfl (by decide) rfl (fun ls hl => ?_)
          refine lv_goto (tgt := 9) hx hb dX1_partOfDay_55 (by decide) ?_
          exact ih r47 (x7_9 - r28) (x8_9 + (1 : Int32)) e6_9 _ _ _ hM hP hD hS (lv_sub hl [3, 4, 5, 6, 1, 2, 0] rfl) K
  obtain ⟨e6_9, hL9, hM⟩ := ob1_some hM
  refine L9 N p2 p3 (0 : Int32) e6_9 _ _ _ hL9 hP hD hS (lv_sub hl [3, 4, 7, 8, 2, 1, 0] rfl) ?_
  intro H locs ls hP hD hS hl
  refine lv_iload hx hb dX1_partOfDay_58 (lv_at hl 0 rfl) ?_
  obtain rfl := si1 hM
  exact hret _ _ _ _ _ dX1_partOfDay_60 rfl rfl hP hD hS
