-- ===== X5_layCell layCell (LCaveYears$Cave;III)V =====
abbrev r5_layCell : Room := { frames := 3, cells := 0, slots := 0, locals := 65 }
def f5_layCell_L25 (N : Nat) (p3 : Int32) (p4 : Int32) (v_least : Nat → Nat → Int32) (v_most : Nat → Nat → Int32) (w1_parts : Int32) (w1_near : Nat → Int32) : Nat → Int32 → Int32 → Int32 → Option (Int32 × Int32)
  | 0, _, _, _ => none
  | n + 1, x5_25, x6_25, x7_25 => if (7 : Int32) ≤ x7_25 then (some (x5_25, x6_25)) else (if p3 ≤ (1 : Int32) then ((f5_layCell_L25 N p3 p4 v_least v_most w1_parts w1_near n) x5_25 x6_25 (x7_25 + (1 : Int32))) else (ob1 (f0_mayFollow N p4 x7_25 w1_parts w1_near) fun r42 => if r42 = (0 : Int32) then ((f5_layCell_L25 N p3 p4 v_least v_most w1_parts w1_near n) x5_25 x6_25 (x7_25 + (1 : Int32))) else (ob1 (f5_mostTime N (p3 - (1 : Int32)) x7_25 v_least v_most) fun r54 => if r54 = (-1 : Int32) then ((f5_layCell_L25 N p3 p4 v_least v_most w1_parts w1_near n) x5_25 x6_25 (x7_25 + (1 : Int32))) else (if x5_25 = (-1 : Int32) then (ob1 (f5_leastTime N (p3 - (1 : Int32)) x7_25 v_least v_most) fun r73 => ob1 (f5_mostTime N (p3 - (1 : Int32)) x7_25 v_least v_most) fun r103 => (f5_layCell_L25 N p3 p4 v_least v_most w1_parts w1_near n) r73 (if x6_25 < r103 then r103 else x6_25) (x7_25 + (1 : Int32))) else (ob1 (f5_leastTime N (p3 - (1 : Int32)) x7_25 v_least v_most) fun r87 => ob1 (f5_mostTime N (p3 - (1 : Int32)) x7_25 v_least v_most) fun r103 => (f5_layCell_L25 N p3 p4 v_least v_most w1_parts w1_near n) (if r87 < x5_25 then r87 else x5_25) (if x6_25 < r103 then r103 else x6_25) (x7_25 + (1 : Int32)))))))
def f5_layCell_J144 (N : Nat) (p3 : Int32) (p4 : Int32) (v_least : Nat → Nat → Int32) (v_most : Nat → Nat → Int32) (w1_parts : Int32) (w1_rate : Nat → Int32) (e6_25 : Int32) (s0_144 : Int32) (s1_144 : Int32) : Option ((Nat → Nat → Int32) × (Nat → Nat → Int32)) :=
  gi s1_144 7 (gi p3 41 (if e6_25 = (-1 : Int32) then (gi p4 7 (some ((upM v_least p3.toNatClampNeg (upd (v_least p3.toNatClampNeg) s1_144.toNatClampNeg s0_144)), (upM v_most p3.toNatClampNeg (upd (v_most p3.toNatClampNeg) p4.toNatClampNeg (-1 : Int32)))))) else (ob1 (f0_rateOf N p4 w1_parts w1_rate) fun r168 => gi p4 7 (some ((upM v_least p3.toNatClampNeg (upd (v_least p3.toNatClampNeg) s1_144.toNatClampNeg s0_144)), (upM v_most p3.toNatClampNeg (upd (v_most p3.toNatClampNeg) p4.toNatClampNeg (e6_25 + r168))))))))
def f5_layCell_J16 (N : Nat) (p3 : Int32) (p4 : Int32) (v_least : Nat → Nat → Int32) (v_most : Nat → Nat → Int32) (w1_parts : Int32) (w1_rate : Nat → Int32) (w1_near : Nat → Int32) (s0_16 : Int32) : Option ((Nat → Nat → Int32) × (Nat → Nat → Int32)) :=
  ob2 (f5_layCell_L25 N p3 p4 v_least v_most w1_parts w1_near N s0_16 s0_16 (0 : Int32)) fun e5_25 e6_25 => gi p3 41 (if e5_25 = (-1 : Int32) then (f5_layCell_J144 N p3 p4 v_least v_most w1_parts w1_rate e6_25 (-1 : Int32) p4) else (ob1 (f0_rateOf N p4 w1_parts w1_rate) fun r140 => f5_layCell_J144 N p3 p4 v_least v_most w1_parts w1_rate e6_25 (e5_25 + r140) p4))
def f5_layCell (N : Nat) (p2 : Int32) (p3 : Int32) (p4 : Int32) (v_least : Nat → Nat → Int32) (v_most : Nat → Nat → Int32) (w1_parts : Int32) (w1_rate : Nat → Int32) (w1_near : Nat → Int32) : Option ((Nat → Nat → Int32) × (Nat → Nat → Int32)) :=
  if p3 = (1 : Int32) then (if p4 = p2 then (f5_layCell_J16 N p3 p4 v_least v_most w1_parts w1_rate w1_near (0 : Int32)) else (f5_layCell_J16 N p3 p4 v_least v_most w1_parts w1_rate w1_near (-1 : Int32))) else (f5_layCell_J16 N p3 p4 v_least v_most w1_parts w1_rate w1_near (-1 : Int32))
set_option maxHeartbeats 4000000 in
set_option maxRecDepth 100000 in
theorem c5_layCell (l : Launch) (D : va_G) (cy : Nat → ClassId) (N : Nat) (rh0_least : Nat → Nat) (rh0_most : Nat → Nat) (h0 h0_least h0_most g1 g1_rate g1_near : Nat) (og1_1 og1_2 og1_3 og1_4 og1_5 og1_6 og1_9 og1_10 og1_11 og1_12 : Value) (p2 : Int32) (p3 : Int32) (p4 : Int32) (v_least : Nat → Nat → Int32) (v_most : Nat → Nat → Int32) (w1_parts : Int32) (w1_rate : Nat → Int32) (w1_near : Nat → Int32) (nv_least : Nat → Nat → Int32) (nv_most : Nat → Nat → Int32) (hM : f5_layCell N p2 p3 p4 v_least v_most w1_parts w1_rate w1_near = some (nv_least, nv_most)) (sz : Nat) : CTv l yX5_layCell wsX5_layCell r5_layCell [.ref h0, .ref g1, .int p2, .int p3, .int p4] D cy sz ([(h0, .inr (5, [.ref h0_least, .ref h0_most])), (h0_least, .inl (cy 5, 41, gO 41 rh0_least)), (h0_most, .inl (cy 5, 41, gO 41 rh0_most)), (g1, .inr (0, [.int w1_parts, og1_1, og1_2, og1_3, og1_4, og1_5, og1_6, .ref g1_rate, .ref g1_near, og1_9, og1_10, og1_11, og1_12])), (g1_rate, .inl (cy 2, 7, .inl w1_rate)), (g1_near, .inl (cy 2, 7, .inl w1_near))] ++ (gW rh0_least 41 7 (cy 2) v_least ++ gW rh0_most 41 7 (cy 2) v_most)) ([(h0, .inr (5, [.ref h0_least, .ref h0_most])), (h0_least, .inl (cy 5, 41, gO 41 rh0_least)), (h0_most, .inl (cy 5, 41, gO 41 rh0_most)), (g1, .inr (0, [.int w1_parts, og1_1, og1_2, og1_3, og1_4, og1_5, og1_6, .ref g1_rate, .ref g1_near, og1_9, og1_10, og1_11, og1_12])), (g1_rate, .inl (cy 2, 7, .inl w1_rate)), (g1_near, .inl (cy 2, 7, .inl w1_near))] ++ (gW rh0_least 41 7 (cy 2) nv_least ++ gW rh0_most 41 7 (cy 2) nv_most)) := by
  unfold f5_layCell at hM
  refine ct_ov (cc := cX5_layCell) (maxL := 8)  (by decide +kernel) rfl (Nat.le_of_ble_eq_true rfl) (lv0 := [(0, .ref h0), (1, .ref g1), (2, .int p2), (3, .int p3), (4, .int p4)]) rfl ?_
  intro p e s m args below meth c A Q ls hx hb hts hown hml hK hP hD hS hA hret hl
  have hown : s.vm.findClass RX5 = some m.cls := hown
  have k60 := hts (.methodLink RX5 60 Lib.Math.min.name) (List.mem_of_getElem? (i := 1) rfl)
  have ks60 := hts (.static Lib.Math.min.name) (List.mem_of_getElem? (i := 2) rfl)
  have kmath := hts (.initialized "java/lang/Math") (List.mem_of_getElem? (i := 3) rfl)
  have kc60 := hts (.code Lib.Math.min.name Lib.Math.min.code 2 (some .int)) (List.mem_of_getElem? (i := 4) rfl)
  have k31 := hts (.methodLink RX5 31 Lib.Math.max.name) (List.mem_of_getElem? (i := 5) rfl)
  have ks31 := hts (.static Lib.Math.max.name) (List.mem_of_getElem? (i := 6) rfl)
  have kc31 := hts (.code Lib.Math.max.name Lib.Math.max.code 2 (some .int)) (List.mem_of_getElem? (i := 7) rfl)
  have k11 := hts (.fieldLink RX5 11 "CaveYears$Spans" "least" "[[I") (List.mem_of_getElem? (i := 8) rfl)
  have iX5 := (fun w h => (List.mem_cons_of_mem _ (List.mem_append_left _ (List.mem_append_right _ h))) : ∀ w ∈ wsX50, w ∈ wsX5_layCell)
  have k16 := hts (.fieldLink RX5 16 "CaveYears$Spans" "most" "[[I") (List.mem_of_getElem? (i := 9) rfl)
  refine lv_iload_n hx hb dX5_layCell_0 rfl (lv_at hl 3 rfl) ?_
  refine lv_iconst (v := 1) hx hb dX5_layCell_1 (by decide) ?_
  have K16 : ∀ (s0_16 : Int32) (H : Heap) (locs : List Loc) (ls : Array Slot), f5_layCell_J16 N p3 p4 v_least v_most w1_parts w1_rate w1_near s0_16 = some (nv_least, nv_most) → va_P D vwCl ([(h0, .inr (5, [.ref h0_least, .ref h0_most])), (h0_least, .inl (cy 5, 41, gO 41 rh0_least)), (h0_most, .inl (cy 5, 41, gO 41 rh0_most)), (g1, .inr (0, [.int w1_parts, og1_1, og1_2, og1_3, og1_4, og1_5, og1_6, .ref g1_rate, .ref g1_near, og1_9, og1_10, og1_11, og1_12])), (g1_rate, .inl (cy 2, 7, .inl w1_rate)), (g1_near, .inl (cy 2, 7, .inl w1_near))] ++ (gW rh0_least 41 7 (cy 2) v_least ++ gW rh0_most 41 7 (cy 2) v_most)) H → va_D A ([(h0, .inr (5, [.ref h0_least, .ref h0_most])), (h0_least, .inl (cy 5, 41, gO 41 rh0_least)), (h0_most, .inl (cy 5, 41, gO 41 rh0_most)), (g1, .inr (0, [.int w1_parts, og1_1, og1_2, og1_3, og1_4, og1_5, og1_6, .ref g1_rate, .ref g1_near, og1_9, og1_10, og1_11, og1_12])), (g1_rate, .inl (cy 2, 7, .inl w1_rate)), (g1_near, .inl (cy 2, 7, .inl w1_near))] ++ (gW rh0_least 41 7 (cy 2) v_least ++ gW rh0_most 41 7 (cy 2) v_most)) → va_S A s.heap H locs → lv_has ls 8 [(0, .ref h0), (1, .ref g1), (3, .int p3), (4, .int p4)] → W p l e r5_layCell s m args below meth c H locs 0 0 Q (F0 m 16 ls [.int s0_16]) := by
    intro s0_16 H locs ls hM hP hD hS hl
    unfold f5_layCell_J16 at hM
    refine lv_istore (lv' := [(5, .int s0_16), (0, .ref h0), (1, .ref g1), (3, .int p3), (4, .int p4)]) hx hb dX5_layCell_16 hl (by decide) rfl (fun ls hl => ?_)
    refine lv_iload hx hb dX5_layCell_18 (lv_at hl 0 rfl) ?_
    refine lv_istore (lv' := [(6, .int s0_16), (5, .int s0_16), (0, .ref h0), (1, .ref g1), (3, .int p3), (4, .int p4)]) hx hb dX5_layCell_20 hl (by decide) rfl (fun ls hl => ?_)
    refine lv_iconst (v := 0) hx hb dX5_layCell_22 (by decide) ?_
    refine lv_istore (lv' := [(7, .int (0 : Int32)), (6, .int s0_16), (5, .int s0_16), (0, .ref h0), (1, .ref g1), (3, .int p3), (4, .int p4)]) hx hb dX5_layCell_23 hl (by decide) rfl (fun ls hl => ?_)
    have L25 : ∀ (n : Nat) (x5_25 : Int32) (x6_25 : Int32) (x7_25 : Int32) (e5_25 : Int32) (e6_25 : Int32) (H : Heap) (locs : List Loc) (ls : Array Slot), f5_layCell_L25 N p3 p4 v_least v_most w1_parts w1_near n x5_25 x6_25 x7_25 = some (e5_25, e6_25) → va_P D vwCl ([(h0, .inr (5, [.ref h0_least, .ref h0_most])), (h0_least, .inl (cy 5, 41, gO 41 rh0_least)), (h0_most, .inl (cy 5, 41, gO 41 rh0_most)), (g1, .inr (0, [.int w1_parts, og1_1, og1_2, og1_3, og1_4, og1_5, og1_6, .ref g1_rate, .ref g1_near, og1_9, og1_10, og1_11, og1_12])), (g1_rate, .inl (cy 2, 7, .inl w1_rate)), (g1_near, .inl (cy 2, 7, .inl w1_near))] ++ (gW rh0_least 41 7 (cy 2) v_least ++ gW rh0_most 41 7 (cy 2) v_most)) H → va_D A ([(h0, .inr (5, [.ref h0_least, .ref h0_most])), (h0_least, .inl (cy 5, 41, gO 41 rh0_least)), (h0_most, .inl (cy 5, 41, gO 41 rh0_most)), (g1, .inr (0, [.int w1_parts, og1_1, og1_2, og1_3, og1_4, og1_5, og1_6, .ref g1_rate, .ref g1_near, og1_9, og1_10, og1_11, og1_12])), (g1_rate, .inl (cy 2, 7, .inl w1_rate)), (g1_near, .inl (cy 2, 7, .inl w1_near))] ++ (gW rh0_least 41 7 (cy 2) v_least ++ gW rh0_most 41 7 (cy 2) v_most)) → va_S A s.heap H locs → lv_has ls 8 [(0, .ref h0), (1, .ref g1), (3, .int p3), (4, .int p4), (5, .int x5_25), (6, .int x6_25), (7, .int x7_25)] → (∀ (H : Heap) (locs : List Loc) (ls : Array Slot), va_P D vwCl ([(h0, .inr (5, [.ref h0_least, .ref h0_most])), (h0_least, .inl (cy 5, 41, gO 41 rh0_least)), (h0_most, .inl (cy 5, 41, gO 41 rh0_most)), (g1, .inr (0, [.int w1_parts, og1_1, og1_2, og1_3, og1_4, og1_5, og1_6, .ref g1_rate, .ref g1_near, og1_9, og1_10, og1_11, og1_12])), (g1_rate, .inl (cy 2, 7, .inl w1_rate)), (g1_near, .inl (cy 2, 7, .inl w1_near))] ++ (gW rh0_least 41 7 (cy 2) v_least ++ gW rh0_most 41 7 (cy 2) v_most)) H → va_D A ([(h0, .inr (5, [.ref h0_least, .ref h0_most])), (h0_least, .inl (cy 5, 41, gO 41 rh0_least)), (h0_most, .inl (cy 5, 41, gO 41 rh0_most)), (g1, .inr (0, [.int w1_parts, og1_1, og1_2, og1_3, og1_4, og1_5, og1_6, .ref g1_rate, .ref g1_near, og1_9, og1_10, og1_11, og1_12])), (g1_rate, .inl (cy 2, 7, .inl w1_rate)), (g1_near, .inl (cy 2, 7, .inl w1_near))] ++ (gW rh0_least 41 7 (cy 2) v_least ++ gW rh0_most 41 7 (cy 2) v_most)) → va_S A s.heap H locs → lv_has ls 8 [(0, .ref h0), (1, .ref g1), (3, .int p3), (4, .int p4), (5, .int e5_25), (6, .int e6_25)] → W p l e r5_layCell s m args below meth c H locs 0 0 Q (F0 m 117 ls [])) → W p l e r5_layCell s m args below meth c H locs 0 0 Q (F0 m 25 ls []) := by
      intro n
      induction n with
      | zero =>
        intro x5_25 x6_25 x7_25 e5_25 e6_25 H locs ls hM
        exact absurd hM (by simp [f5_layCell_L25])
      | succ n ih =>
        intro x5_25 x6_25 x7_25 e5_25 e6_25 H locs ls hM hP hD hS hl K
        rw [f5_layCell_L25] at hM
        refine lv_iload hx hb dX5_layCell_25 (lv_at hl 6 rfl) ?_
        refine lv_bipush (v := 7) hx hb dX5_layCell_27 (by decide) ?_
        refine lv_icmp_ge (tgt := 117) hx hb dX5_layCell_29 (by decide) (fun c29 => ?_) (fun c29 => ?_)
        · have hM := g_pos c29 hM
          obtain ⟨rfl, rfl⟩ := si2 hM
          exact K _ _ _ hP hD hS (lv_sub hl [0, 1, 2, 3, 4, 5] rfl)
        · have hM := g_neg c29 hM
          refine lv_iload_n hx hb dX5_layCell_32 rfl (lv_at hl 2 rfl) ?_
          refine lv_iconst (v := 1) hx hb dX5_layCell_33 (by decide) ?_
          refine lv_icmp_le (tgt := 111) hx hb dX5_layCell_34 (by decide) (fun c34 => ?_) (fun c34 => ?_)
          · have hM := g_pos c34 hM
            refine lv_iinc (v := x7_25 + (1 : Int32)) (lv' := [(7, .int (x7_25 + (1 : Int32))), (0, .ref h0), (1, .ref g1), (3, .int p3), (4, .int p4), (5, .int x5_25), (6, .int x6_25)]) hx hb dX5_layCell_111 hl (k := 6) rfl rfl (by decide) rfl (fun ls hl => ?_)
            refine lv_goto (tgt := 25) hx hb dX5_layCell_114 (by decide) ?_
            exact ih x5_25 x6_25 (x7_25 + (1 : Int32)) e5_25 e6_25 _ _ _ hM hP hD hS (lv_sub hl [1, 2, 3, 4, 5, 6, 0] rfl) K
          · have hM := g_neg c34 hM
            refine lv_aload_n hx hb dX5_layCell_37 rfl (lv_at hl 1 rfl) ?_
            refine lv_iload hx hb dX5_layCell_38 (lv_at hl 3 rfl) ?_
            refine lv_iload hx hb dX5_layCell_40 (lv_at hl 6 rfl) ?_
            obtain ⟨r42, hc42, hM⟩ := ob1_some hM
            refine cg_vi (As := [.int p4, .int x7_25]) (rest := []) (ci := 0) (q0 := 3) (wr := ([(h0, .inr (5, [.ref h0_least, .ref h0_most])), (h0_least, .inl (cy 5, 41, gO 41 rh0_least)), (h0_most, .inl (cy 5, 41, gO 41 rh0_most)), (g1_rate, .inl (cy 2, 7, .inl w1_rate))] ++ (gW rh0_least 41 7 (cy 2) v_least ++ gW rh0_most 41 7 (cy 2) v_most))) (ws2 := ([(h0, .inr (5, [.ref h0_least, .ref h0_most])), (h0_least, .inl (cy 5, 41, gO 41 rh0_least)), (h0_most, .inl (cy 5, 41, gO 41 rh0_most)), (g1, .inr (0, [.int w1_parts, og1_1, og1_2, og1_3, og1_4, og1_5, og1_6, .ref g1_rate, .ref g1_near, og1_9, og1_10, og1_11, og1_12])), (g1_rate, .inl (cy 2, 7, .inl w1_rate)), (g1_near, .inl (cy 2, 7, .inl w1_near))] ++ (gW rh0_least 41 7 (cy 2) v_least ++ gW rh0_most 41 7 (cy 2) v_most))) hx hb hml hown hts (c0_mayFollow l D cy N g1 g1_near og1_1 og1_2 og1_3 og1_4 og1_5 og1_6 (.ref g1_rate) og1_9 og1_10 og1_11 og1_12 p4 x7_25 w1_parts w1_near r42 hc42) (cwV 2 hts gX5_layCell_X0_mayFollow rfl rfl rfl (by decide +kernel) ⟨Nat.le_of_ble_eq_true rfl, Nat.le_of_ble_eq_true rfl⟩) hK hP hD hS hA rfl rfl (pm_Q (pm_x [0, 1, 2, 4, 3, 5] rfl rfl)) (pm_Q (pm_x [0, 1, 2, 4, 3, 5] rfl rfl)).symm rfl rfl hl.1 (Nat.le_of_ble_eq_true rfl) dX5_layCell_42 ⟨Nat.zero_le _, Nat.zero_le _⟩ (fun H locs hP hD hS => ?_)
            refine lv_if_eq (tgt := 111) hx hb dX5_layCell_45 (by decide) (fun c45 => ?_) (fun c45 => ?_)
            · have hM := g_pos c45 hM
              refine lv_iinc (v := x7_25 + (1 : Int32)) (lv' := [(7, .int (x7_25 + (1 : Int32))), (0, .ref h0), (1, .ref g1), (3, .int p3), (4, .int p4), (5, .int x5_25), (6, .int x6_25)]) hx hb dX5_layCell_111 hl (k := 6) rfl rfl (by decide) rfl (fun ls hl => ?_)
              refine lv_goto (tgt := 25) hx hb dX5_layCell_114 (by decide) ?_
              exact ih x5_25 x6_25 (x7_25 + (1 : Int32)) e5_25 e6_25 _ _ _ hM hP hD hS (lv_sub hl [1, 2, 3, 4, 5, 6, 0] rfl) K
            · have hM := g_neg c45 hM
              refine lv_aload_n hx hb dX5_layCell_48 rfl (lv_at hl 0 rfl) ?_
              refine lv_iload_n hx hb dX5_layCell_49 rfl (lv_at hl 2 rfl) ?_
              refine lv_iconst (v := 1) hx hb dX5_layCell_50 (by decide) ?_
              refine lv_isub hx hb dX5_layCell_51 ?_
              refine lv_iload hx hb dX5_layCell_52 (lv_at hl 6 rfl) ?_
              obtain ⟨r54, hc54, hM⟩ := ob1_some hM
              refine cg_vi (As := [.int (p3 - (1 : Int32)), .int x7_25]) (rest := []) (ci := 5) (q0 := 0) (wr := [(g1, .inr (0, [.int w1_parts, og1_1, og1_2, og1_3, og1_4, og1_5, og1_6, .ref g1_rate, .ref g1_near, og1_9, og1_10, og1_11, og1_12])), (g1_rate, .inl (cy 2, 7, .inl w1_rate)), (g1_near, .inl (cy 2, 7, .inl w1_near))]) (ws2 := ([(h0, .inr (5, [.ref h0_least, .ref h0_most])), (h0_least, .inl (cy 5, 41, gO 41 rh0_least)), (h0_most, .inl (cy 5, 41, gO 41 rh0_most)), (g1, .inr (0, [.int w1_parts, og1_1, og1_2, og1_3, og1_4, og1_5, og1_6, .ref g1_rate, .ref g1_near, og1_9, og1_10, og1_11, og1_12])), (g1_rate, .inl (cy 2, 7, .inl w1_rate)), (g1_near, .inl (cy 2, 7, .inl w1_near))] ++ (gW rh0_least 41 7 (cy 2) v_least ++ gW rh0_most 41 7 (cy 2) v_most))) hx hb hml hown hts (c5_mostTime l D cy N rh0_least rh0_most h0 h0_least h0_most (.ref h0_least) (p3 - (1 : Int32)) x7_25 v_least v_most r54 hc54) (cwV 2 hts gX5_layCell_X5_mostTime rfl rfl rfl (by decide +kernel) ⟨Nat.le_of_ble_eq_true rfl, Nat.le_of_ble_eq_true rfl⟩) hK hP hD hS hA rfl rfl (pm_P (pm_x [3, 4, 5, 0, 1, 2] rfl rfl)) (pm_P (pm_x [3, 4, 5, 0, 1, 2] rfl rfl)).symm rfl rfl hl.1 (Nat.le_of_ble_eq_true rfl) dX5_layCell_54 ⟨Nat.zero_le _, Nat.zero_le _⟩ (fun H locs hP hD hS => ?_)
              refine lv_iconst (v := -1) hx hb dX5_layCell_57 (by decide) ?_
              refine lv_icmp_eq (tgt := 111) hx hb dX5_layCell_58 (by decide) (fun c58 => ?_) (fun c58 => ?_)
              · have hM := g_pos c58 hM
                refine lv_iinc (v := x7_25 + (1 : Int32)) (lv' := [(7, .int (x7_25 + (1 : Int32))), (0, .ref h0), (1, .ref g1), (3, .int p3), (4, .int p4), (5, .int x5_25), (6, .int x6_25)]) hx hb dX5_layCell_111 hl (k := 6) rfl rfl (by decide) rfl (fun ls hl => ?_)
                refine lv_goto (tgt := 25) hx hb dX5_layCell_114 (by decide) ?_
                exact ih x5_25 x6_25 (x7_25 + (1 : Int32)) e5_25 e6_25 _ _ _ hM hP hD hS (lv_sub hl [1, 2, 3, 4, 5, 6, 0] rfl) K
              · have hM := g_neg c58 hM
                refine lv_iload hx hb dX5_layCell_61 (lv_at hl 4 rfl) ?_
                refine lv_iconst (v := -1) hx hb dX5_layCell_63 (by decide) ?_
                refine lv_icmp_ne (tgt := 79) hx hb dX5_layCell_64 (by decide) (fun c64 => ?_) (fun c64 => ?_)
                · have hM := g_neg c64 hM
                  refine lv_iload hx hb dX5_layCell_79 (lv_at hl 4 rfl) ?_
                  refine lv_aload_n hx hb dX5_layCell_81 rfl (lv_at hl 0 rfl) ?_
                  refine lv_iload_n hx hb dX5_layCell_82 rfl (lv_at hl 2 rfl) ?_
                  refine lv_iconst (v := 1) hx hb dX5_layCell_83 (by decide) ?_
                  refine lv_isub hx hb dX5_layCell_84 ?_
                  refine lv_iload hx hb dX5_layCell_85 (lv_at hl 6 rfl) ?_
                  obtain ⟨r87, hc87, hM⟩ := ob1_some hM
                  refine cg_vi (As := [.int (p3 - (1 : Int32)), .int x7_25]) (rest := [.int x5_25]) (ci := 5) (q0 := 0) (wr := [(g1, .inr (0, [.int w1_parts, og1_1, og1_2, og1_3, og1_4, og1_5, og1_6, .ref g1_rate, .ref g1_near, og1_9, og1_10, og1_11, og1_12])), (g1_rate, .inl (cy 2, 7, .inl w1_rate)), (g1_near, .inl (cy 2, 7, .inl w1_near))]) (ws2 := ([(h0, .inr (5, [.ref h0_least, .ref h0_most])), (h0_least, .inl (cy 5, 41, gO 41 rh0_least)), (h0_most, .inl (cy 5, 41, gO 41 rh0_most)), (g1, .inr (0, [.int w1_parts, og1_1, og1_2, og1_3, og1_4, og1_5, og1_6, .ref g1_rate, .ref g1_near, og1_9, og1_10, og1_11, og1_12])), (g1_rate, .inl (cy 2, 7, .inl w1_rate)), (g1_near, .inl (cy 2, 7, .inl w1_near))] ++ (gW rh0_least 41 7 (cy 2) v_least ++ gW rh0_most 41 7 (cy 2) v_most))) hx hb hml hown hts (c5_leastTime l D cy N rh0_least rh0_most h0 h0_least h0_most (.ref h0_most) (p3 - (1 : Int32)) x7_25 v_least v_most r87 hc87) (cwV 2 hts gX5_layCell_X5_leastTime rfl rfl rfl (by decide +kernel) ⟨Nat.le_of_ble_eq_true rfl, Nat.le_of_ble_eq_true rfl⟩) hK hP hD hS hA rfl rfl (pm_P (pm_x [3, 4, 5, 0, 1, 2] rfl rfl)) (pm_P (pm_x [3, 4, 5, 0, 1, 2] rfl rfl)).symm rfl rfl hl.1 (Nat.le_of_ble_eq_true rfl) dX5_layCell_87 ⟨Nat.zero_le _, Nat.zero_le _⟩ (fun H locs hP hD hS => ?_)
                  refine va_mmin hx hb (hml.trans hl.1.symm) hown k60 ks60 kmath kc60 (Nat.le_of_ble_eq_true rfl) (Nat.le_of_ble_eq_true rfl) (Nat.zero_le _) (Nat.zero_le _) dX5_layCell_90 ?_
                  refine lv_istore (lv' := [(5, .int (if r87 < x5_25 then r87 else x5_25)), (0, .ref h0), (1, .ref g1), (3, .int p3), (4, .int p4), (6, .int x6_25), (7, .int x7_25)]) hx hb dX5_layCell_93 hl (by decide) rfl (fun ls hl => ?_)
                  refine lv_iload hx hb dX5_layCell_95 (lv_at hl 5 rfl) ?_
                  refine lv_aload_n hx hb dX5_layCell_97 rfl (lv_at hl 1 rfl) ?_
                  refine lv_iload_n hx hb dX5_layCell_98 rfl (lv_at hl 3 rfl) ?_
                  refine lv_iconst (v := 1) hx hb dX5_layCell_99 (by decide) ?_
                  refine lv_isub hx hb dX5_layCell_100 ?_
                  refine lv_iload hx hb dX5_layCell_101 (lv_at hl 6 rfl) ?_
                  obtain ⟨r103, hc103, hM⟩ := ob1_some hM
                  refine cg_vi (As := [.int (p3 - (1 : Int32)), .int x7_25]) (rest := [.int x6_25]) (ci := 5) (q0 := 0) (wr := [(g1, .inr (0, [.int w1_parts, og1_1, og1_2, og1_3, og1_4, og1_5, og1_6, .ref g1_rate, .ref g1_near, og1_9, og1_10, og1_11, og1_12])), (g1_rate, .inl (cy 2, 7, .inl w1_rate)), (g1_near, .inl (cy 2, 7, .inl w1_near))]) (ws2 := ([(h0, .inr (5, [.ref h0_least, .ref h0_most])), (h0_least, .inl (cy 5, 41, gO 41 rh0_least)), (h0_most, .inl (cy 5, 41, gO 41 rh0_most)), (g1, .inr (0, [.int w1_parts, og1_1, og1_2, og1_3, og1_4, og1_5, og1_6, .ref g1_rate, .ref g1_near, og1_9, og1_10, og1_11, og1_12])), (g1_rate, .inl (cy 2, 7, .inl w1_rate)), (g1_near, .inl (cy 2, 7, .inl w1_near))] ++ (gW rh0_least 41 7 (cy 2) v_least ++ gW rh0_most 41 7 (cy 2) v_most))) hx hb hml hown hts (c5_mostTime l D cy N rh0_least rh0_most h0 h0_least h0_most (.ref h0_least) (p3 - (1 : Int32)) x7_25 v_least v_most r103 hc103) (cwV 2 hts gX5_layCell_X5_mostTime rfl rfl rfl (by decide +kernel) ⟨Nat.le_of_ble_eq_true rfl, Nat.le_of_ble_eq_true rfl⟩) hK hP hD hS hA rfl rfl (pm_P (pm_x [3, 4, 5, 0, 1, 2] rfl rfl)) (pm_P (pm_x [3, 4, 5, 0, 1, 2] rfl rfl)).symm rfl rfl hl.1 (Nat.le_of_ble_eq_true rfl) dX5_layCell_103 ⟨Nat.zero_le _, Nat.zero_le _⟩ (fun H locs hP hD hS => ?_)
                  refine va_mmax hx hb (hml.trans hl.1.symm) hown k31 ks31 kmath kc31 (Nat.le_of_ble_eq_true rfl) (Nat.le_of_ble_eq_true rfl) (Nat.zero_le _) (Nat.zero_le _) dX5_layCell_106 ?_
                  refine lv_istore (lv' := [(6, .int (if x6_25 < r103 then r103 else x6_25)), (5, .int (if r87 < x5_25 then r87 else x5_25)), (0, .ref h0), (1, .ref g1), (3, .int p3), (4, .int p4), (7, .int x7_25)]) hx hb dX5_layCell_109 hl (by decide) rfl (fun ls hl => ?_)
                  refine lv_iinc (v := x7_25 + (1 : Int32)) (lv' := [(7, .int (x7_25 + (1 : Int32))), (6, .int (if x6_25 < r103 then r103 else x6_25)), (5, .int (if r87 < x5_25 then r87 else x5_25)), (0, .ref h0), (1, .ref g1), (3, .int p3), (4, .int p4)]) hx hb dX5_layCell_111 hl (k := 6) rfl rfl (by decide) rfl (fun ls hl => ?_)
                  refine lv_goto (tgt := 25) hx hb dX5_layCell_114 (by decide) ?_
                  exact ih (if r87 < x5_25 then r87 else x5_25) (if x6_25 < r103 then r103 else x6_25) (x7_25 + (1 : Int32)) e5_25 e6_25 _ _ _ hM hP hD hS (lv_sub hl [3, 4, 5, 6, 2, 1, 0] rfl) K
                · have hM := g_pos c64 hM
                  refine lv_aload_n hx hb dX5_layCell_67 rfl (lv_at hl 0 rfl) ?_
                  refine lv_iload_n hx hb dX5_layCell_68 rfl (lv_at hl 2 rfl) ?_
                  refine lv_iconst (v := 1) hx hb dX5_layCell_69 (by decide) ?_
                  refine lv_isub hx hb dX5_layCell_70 ?_
                  refine lv_iload hx hb dX5_layCell_71 (lv_at hl 6 rfl) ?_
                  obtain ⟨r73, hc73, hM⟩ := ob1_some hM
                  refine cg_vi (As := [.int (p3 - (1 : Int32)), .int x7_25]) (rest := []) (ci := 5) (q0 := 0) (wr := [(g1, .inr (0, [.int w1_parts, og1_1, og1_2, og1_3, og1_4, og1_5, og1_6, .ref g1_rate, .ref g1_near, og1_9, og1_10, og1_11, og1_12])), (g1_rate, .inl (cy 2, 7, .inl w1_rate)), (g1_near, .inl (cy 2, 7, .inl w1_near))]) (ws2 := ([(h0, .inr (5, [.ref h0_least, .ref h0_most])), (h0_least, .inl (cy 5, 41, gO 41 rh0_least)), (h0_most, .inl (cy 5, 41, gO 41 rh0_most)), (g1, .inr (0, [.int w1_parts, og1_1, og1_2, og1_3, og1_4, og1_5, og1_6, .ref g1_rate, .ref g1_near, og1_9, og1_10, og1_11, og1_12])), (g1_rate, .inl (cy 2, 7, .inl w1_rate)), (g1_near, .inl (cy 2, 7, .inl w1_near))] ++ (gW rh0_least 41 7 (cy 2) v_least ++ gW rh0_most 41 7 (cy 2) v_most))) hx hb hml hown hts (c5_leastTime l D cy N rh0_least rh0_most h0 h0_least h0_most (.ref h0_most) (p3 - (1 : Int32)) x7_25 v_least v_most r73 hc73) (cwV 2 hts gX5_layCell_X5_leastTime rfl rfl rfl (by decide +kernel) ⟨Nat.le_of_ble_eq_true rfl, Nat.le_of_ble_eq_true rfl⟩) hK hP hD hS hA rfl rfl (pm_P (pm_x [3, 4, 5, 0, 1, 2] rfl rfl)) (pm_P (pm_x [3, 4, 5, 0, 1, 2] rfl rfl)).symm rfl rfl hl.1 (Nat.le_of_ble_eq_true rfl) dX5_layCell_73 ⟨Nat.zero_le _, Nat.zero_le _⟩ (fun H locs hP hD hS => ?_)
                  refine lv_goto (tgt := 93) hx hb dX5_layCell_76 (by decide) ?_
                  refine lv_istore (lv' := [(5, .int r73), (0, .ref h0), (1, .ref g1), (3, .int p3), (4, .int p4), (6, .int x6_25), (7, .int x7_25)]) hx hb dX5_layCell_93 hl (by decide) rfl (fun ls hl => ?_)
                  refine lv_iload hx hb dX5_layCell_95 (lv_at hl 5 rfl) ?_
                  refine lv_aload_n hx hb dX5_layCell_97 rfl (lv_at hl 1 rfl) ?_
                  refine lv_iload_n hx hb dX5_layCell_98 rfl (lv_at hl 3 rfl) ?_
                  refine lv_iconst (v := 1) hx hb dX5_layCell_99 (by decide) ?_
                  refine lv_isub hx hb dX5_layCell_100 ?_
                  refine lv_iload hx hb dX5_layCell_101 (lv_at hl 6 rfl) ?_
                  obtain ⟨r103, hc103, hM⟩ := ob1_some hM
                  refine cg_vi (As := [.int (p3 - (1 : Int32)), .int x7_25]) (rest := [.int x6_25]) (ci := 5) (q0 := 0) (wr := [(g1, .inr (0, [.int w1_parts, og1_1, og1_2, og1_3, og1_4, og1_5, og1_6, .ref g1_rate, .ref g1_near, og1_9, og1_10, og1_11, og1_12])), (g1_rate, .inl (cy 2, 7, .inl w1_rate)), (g1_near, .inl (cy 2, 7, .inl w1_near))]) (ws2 := ([(h0, .inr (5, [.ref h0_least, .ref h0_most])), (h0_least, .inl (cy 5, 41, gO 41 rh0_least)), (h0_most, .inl (cy 5, 41, gO 41 rh0_most)), (g1, .inr (0, [.int w1_parts, og1_1, og1_2, og1_3, og1_4, og1_5, og1_6, .ref g1_rate, .ref g1_near, og1_9, og1_10, og1_11, og1_12])), (g1_rate, .inl (cy 2, 7, .inl w1_rate)), (g1_near, .inl (cy 2, 7, .inl w1_near))] ++ (gW rh0_least 41 7 (cy 2) v_least ++ gW rh0_most 41 7 (cy 2) v_most))) hx hb hml hown hts (c5_mostTime l D cy N rh0_least rh0_most h0 h0_least h0_most (.ref h0_least) (p3 - (1 : Int32)) x7_25 v_least v_most r103 hc103) (cwV 2 hts gX5_layCell_X5_mostTime rfl rfl rfl (by decide +kernel) ⟨Nat.le_of_ble_eq_true rfl, Nat.le_of_ble_eq_true rfl⟩) hK hP hD hS hA rfl rfl (pm_P (pm_x [3, 4, 5, 0, 1, 2] rfl rfl)) (pm_P (pm_x [3, 4, 5, 0, 1, 2] rfl rfl)).symm rfl rfl hl.1 (Nat.le_of_ble_eq_true rfl) dX5_layCell_103 ⟨Nat.zero_le _, Nat.zero_le _⟩ (fun H locs hP hD hS => ?_)
                  refine va_mmax hx hb (hml.trans hl.1.symm) hown k31 ks31 kmath kc31 (Nat.le_of_ble_eq_true rfl) (Nat.le_of_ble_eq_true rfl) (Nat.zero_le _) (Nat.zero_le _) dX5_layCell_106 ?_
                  refine lv_istore (lv' := [(6, .int (if x6_25 < r103 then r103 else x6_25)), (5, .int r73), (0, .ref h0), (1, .ref g1), (3, .int p3), (4, .int p4), (7, .int x7_25)]) hx hb dX5_layCell_109 hl (by decide) rfl (fun ls hl => ?_)
                  refine lv_iinc (v := x7_25 + (1 : Int32)) (lv' := [(7, .int (x7_25 + (1 : Int32))), (6, .int (if x6_25 < r103 then r103 else x6_25)), (5, .int r73), (0, .ref h0), (1, .ref g1), (3, .int p3), (4, .int p4)]) hx hb dX5_layCell_111 hl (k := 6) rfl rfl (by decide) rfl (fun ls hl => ?_)
                  refine lv_goto (tgt := 25) hx hb dX5_layCell_114 (by decide) ?_
                  exact ih r73 (if x6_25 < r103 then r103 else x6_25) (x7_25 + (1 : Int32)) e5_25 e6_25 _ _ _ hM hP hD hS (lv_sub hl [3, 4, 5, 6, 2, 1, 0] rfl) K
    obtain ⟨e5_25, e6_25, hL25, hM⟩ := ob2_some hM
    refine L25 N s0_16 s0_16 (0 : Int32) e5_25 e6_25 _ _ _ hL25 hP hD hS (lv_sub hl [3, 4, 5, 6, 2, 1, 0] rfl) ?_
    intro H locs ls hP hD hS hl
    refine lv_aload_n hx hb dX5_layCell_117 rfl (lv_at hl 0 rfl) ?_
    refine va_get (D := D) (ci := 5) (v := .ref h0_least) (C := RX5) (T := TX5) (N := 2) hx hb hts iX5 hown hK hP 0 rfl rfl 0 (by decide) k11 (fun _ h9 => h9) rfl dX5_layCell_118 ?_
    refine lv_iload_n hx hb dX5_layCell_121 rfl (lv_at hl 2 rfl) ?_
    obtain ⟨h122, hM⟩ := gi_some hM
    refine wv_aald hx hb hK hP 1 5 rfl rfl h122 dX5_layCell_122 ?_
    refine lv_iload hx hb dX5_layCell_123 (lv_at hl 3 rfl) ?_
    refine lv_iload hx hb dX5_layCell_125 (lv_at hl 4 rfl) ?_
    refine lv_iconst (v := -1) hx hb dX5_layCell_127 (by decide) ?_
    have K144 : ∀ (s0_144 : Int32) (s1_144 : Int32) (H : Heap) (locs : List Loc) (ls : Array Slot), f5_layCell_J144 N p3 p4 v_least v_most w1_parts w1_rate e6_25 s0_144 s1_144 = some (nv_least, nv_most) → va_P D vwCl ([(h0, .inr (5, [.ref h0_least, .ref h0_most])), (h0_least, .inl (cy 5, 41, gO 41 rh0_least)), (h0_most, .inl (cy 5, 41, gO 41 rh0_most)), (g1, .inr (0, [.int w1_parts, og1_1, og1_2, og1_3, og1_4, og1_5, og1_6, .ref g1_rate, .ref g1_near, og1_9, og1_10, og1_11, og1_12])), (g1_rate, .inl (cy 2, 7, .inl w1_rate)), (g1_near, .inl (cy 2, 7, .inl w1_near))] ++ (gW rh0_least 41 7 (cy 2) v_least ++ gW rh0_most 41 7 (cy 2) v_most)) H → va_D A ([(h0, .inr (5, [.ref h0_least, .ref h0_most])), (h0_least, .inl (cy 5, 41, gO 41 rh0_least)), (h0_most, .inl (cy 5, 41, gO 41 rh0_most)), (g1, .inr (0, [.int w1_parts, og1_1, og1_2, og1_3, og1_4, og1_5, og1_6, .ref g1_rate, .ref g1_near, og1_9, og1_10, og1_11, og1_12])), (g1_rate, .inl (cy 2, 7, .inl w1_rate)), (g1_near, .inl (cy 2, 7, .inl w1_near))] ++ (gW rh0_least 41 7 (cy 2) v_least ++ gW rh0_most 41 7 (cy 2) v_most)) → va_S A s.heap H locs → lv_has ls 8 [(0, .ref h0), (1, .ref g1), (3, .int p3), (4, .int p4), (6, .int e6_25)] → W p l e r5_layCell s m args below meth c H locs 0 0 Q (F0 m 144 ls [.int s0_144, .int s1_144, .ref (rh0_least p3.toNatClampNeg)]) := by
      intro s0_144 s1_144 H locs ls hM hP hD hS hl
      unfold f5_layCell_J144 at hM
      obtain ⟨h144, hM⟩ := gi_some hM
      refine wv_iast hx hb hK hP hD hS 2 (gW_rowA h122) rfl h144 dX5_layCell_144 (fun H locs hP hD hS => ?_)
      have hP : va_P D vwCl ([(h0, .inr (5, [.ref h0_least, .ref h0_most])), (h0_least, .inl (cy 5, 41, gO 41 rh0_least)), (h0_most, .inl (cy 5, 41, gO 41 rh0_most)), (g1, .inr (0, [.int w1_parts, og1_1, og1_2, og1_3, og1_4, og1_5, og1_6, .ref g1_rate, .ref g1_near, og1_9, og1_10, og1_11, og1_12])), (g1_rate, .inl (cy 2, 7, .inl w1_rate)), (g1_near, .inl (cy 2, 7, .inl w1_near))] ++ (gW rh0_least 41 7 (cy 2) (upM v_least p3.toNatClampNeg (upd (v_least p3.toNatClampNeg) s1_144.toNatClampNeg s0_144)) ++ gW rh0_most 41 7 (cy 2) v_most)) H := hP
      have hD : va_D A ([(h0, .inr (5, [.ref h0_least, .ref h0_most])), (h0_least, .inl (cy 5, 41, gO 41 rh0_least)), (h0_most, .inl (cy 5, 41, gO 41 rh0_most)), (g1, .inr (0, [.int w1_parts, og1_1, og1_2, og1_3, og1_4, og1_5, og1_6, .ref g1_rate, .ref g1_near, og1_9, og1_10, og1_11, og1_12])), (g1_rate, .inl (cy 2, 7, .inl w1_rate)), (g1_near, .inl (cy 2, 7, .inl w1_near))] ++ (gW rh0_least 41 7 (cy 2) (upM v_least p3.toNatClampNeg (upd (v_least p3.toNatClampNeg) s1_144.toNatClampNeg s0_144)) ++ gW rh0_most 41 7 (cy 2) v_most)) := hD
      refine lv_aload_n hx hb dX5_layCell_145 rfl (lv_at hl 0 rfl) ?_
      refine va_get (D := D) (ci := 5) (v := .ref h0_most) (C := RX5) (T := TX5) (N := 2) hx hb hts iX5 hown hK hP 0 rfl rfl 1 (by decide) k16 (fun _ h9 => h9) rfl dX5_layCell_146 ?_
      refine lv_iload_n hx hb dX5_layCell_149 rfl (lv_at hl 2 rfl) ?_
      obtain ⟨h150, hM⟩ := gi_some hM
      refine wv_aald hx hb hK hP 2 5 rfl rfl h150 dX5_layCell_150 ?_
      refine lv_iload hx hb dX5_layCell_151 (lv_at hl 3 rfl) ?_
      refine lv_iload hx hb dX5_layCell_153 (lv_at hl 4 rfl) ?_
      refine lv_iconst (v := -1) hx hb dX5_layCell_155 (by decide) ?_
      refine lv_icmp_ne (tgt := 163) hx hb dX5_layCell_156 (by decide) (fun c156 => ?_) (fun c156 => ?_)
      · have hM := g_neg c156 hM
        refine lv_iload hx hb dX5_layCell_163 (lv_at hl 4 rfl) ?_
        refine lv_aload_n hx hb dX5_layCell_165 rfl (lv_at hl 1 rfl) ?_
        refine lv_iload hx hb dX5_layCell_166 (lv_at hl 3 rfl) ?_
        obtain ⟨r168, hc168, hM⟩ := ob1_some hM
        refine cg_vi (As := [.int p4]) (rest := [.int e6_25, .int p4, .ref (rh0_most p3.toNatClampNeg)]) (ci := 0) (q0 := 3) (wr := ([(h0, .inr (5, [.ref h0_least, .ref h0_most])), (h0_least, .inl (cy 5, 41, gO 41 rh0_least)), (h0_most, .inl (cy 5, 41, gO 41 rh0_most)), (g1_near, .inl (cy 2, 7, .inl w1_near))] ++ (gW rh0_least 41 7 (cy 2) (upM v_least p3.toNatClampNeg (upd (v_least p3.toNatClampNeg) s1_144.toNatClampNeg s0_144)) ++ gW rh0_most 41 7 (cy 2) v_most))) (ws2 := ([(h0, .inr (5, [.ref h0_least, .ref h0_most])), (h0_least, .inl (cy 5, 41, gO 41 rh0_least)), (h0_most, .inl (cy 5, 41, gO 41 rh0_most)), (g1, .inr (0, [.int w1_parts, og1_1, og1_2, og1_3, og1_4, og1_5, og1_6, .ref g1_rate, .ref g1_near, og1_9, og1_10, og1_11, og1_12])), (g1_rate, .inl (cy 2, 7, .inl w1_rate)), (g1_near, .inl (cy 2, 7, .inl w1_near))] ++ (gW rh0_least 41 7 (cy 2) (upM v_least p3.toNatClampNeg (upd (v_least p3.toNatClampNeg) s1_144.toNatClampNeg s0_144)) ++ gW rh0_most 41 7 (cy 2) v_most))) hx hb hml hown hts (c0_rateOf l D cy N g1 g1_rate og1_1 og1_2 og1_3 og1_4 og1_5 og1_6 (.ref g1_near) og1_9 og1_10 og1_11 og1_12 p4 w1_parts w1_rate r168 hc168) (cwV 1 hts gX5_layCell_X0_rateOf rfl rfl rfl (by decide +kernel) ⟨Nat.le_of_ble_eq_true rfl, Nat.le_of_ble_eq_true rfl⟩) hK hP hD hS hA rfl rfl (pm_Q (pm_x [0, 1, 2, 5, 3, 4] rfl rfl)) (pm_Q (pm_x [0, 1, 2, 5, 3, 4] rfl rfl)).symm rfl rfl hl.1 (Nat.le_of_ble_eq_true rfl) dX5_layCell_168 ⟨Nat.zero_le _, Nat.zero_le _⟩ (fun H locs hP hD hS => ?_)
        refine lv_iadd hx hb dX5_layCell_171 ?_
        obtain ⟨h172, hM⟩ := gi_some hM
        refine wv_iast hx hb hK hP hD hS 2 (gW_rowB h150) rfl h172 dX5_layCell_172 (fun H locs hP hD hS => ?_)
        have hP : va_P D vwCl ([(h0, .inr (5, [.ref h0_least, .ref h0_most])), (h0_least, .inl (cy 5, 41, gO 41 rh0_least)), (h0_most, .inl (cy 5, 41, gO 41 rh0_most)), (g1, .inr (0, [.int w1_parts, og1_1, og1_2, og1_3, og1_4, og1_5, og1_6, .ref g1_rate, .ref g1_near, og1_9, og1_10, og1_11, og1_12])), (g1_rate, .inl (cy 2, 7, .inl w1_rate)), (g1_near, .inl (cy 2, 7, .inl w1_near))] ++ (gW rh0_least 41 7 (cy 2) (upM v_least p3.toNatClampNeg (upd (v_least p3.toNatClampNeg) s1_144.toNatClampNeg s0_144)) ++ gW rh0_most 41 7 (cy 2) (upM v_most p3.toNatClampNeg (upd (v_most p3.toNatClampNeg) p4.toNatClampNeg (e6_25 + r168))))) H := hP
        have hD : va_D A ([(h0, .inr (5, [.ref h0_least, .ref h0_most])), (h0_least, .inl (cy 5, 41, gO 41 rh0_least)), (h0_most, .inl (cy 5, 41, gO 41 rh0_most)), (g1, .inr (0, [.int w1_parts, og1_1, og1_2, og1_3, og1_4, og1_5, og1_6, .ref g1_rate, .ref g1_near, og1_9, og1_10, og1_11, og1_12])), (g1_rate, .inl (cy 2, 7, .inl w1_rate)), (g1_near, .inl (cy 2, 7, .inl w1_near))] ++ (gW rh0_least 41 7 (cy 2) (upM v_least p3.toNatClampNeg (upd (v_least p3.toNatClampNeg) s1_144.toNatClampNeg s0_144)) ++ gW rh0_most 41 7 (cy 2) (upM v_most p3.toNatClampNeg (upd (v_most p3.toNatClampNeg) p4.toNatClampNeg (e6_25 + r168))))) := hD
        obtain ⟨rfl, rfl⟩ := si2 hM
        exact hret _ _ _ _ dX5_layCell_173 hP hD hS
      · have hM := g_pos c156 hM
        refine lv_iconst (v := -1) hx hb dX5_layCell_159 (by decide) ?_
        refine lv_goto (tgt := 172) hx hb dX5_layCell_160 (by decide) ?_
        obtain ⟨h172, hM⟩ := gi_some hM
        refine wv_iast hx hb hK hP hD hS 2 (gW_rowB h150) rfl h172 dX5_layCell_172 (fun H locs hP hD hS => ?_)
        have hP : va_P D vwCl ([(h0, .inr (5, [.ref h0_least, .ref h0_most])), (h0_least, .inl (cy 5, 41, gO 41 rh0_least)), (h0_most, .inl (cy 5, 41, gO 41 rh0_most)), (g1, .inr (0, [.int w1_parts, og1_1, og1_2, og1_3, og1_4, og1_5, og1_6, .ref g1_rate, .ref g1_near, og1_9, og1_10, og1_11, og1_12])), (g1_rate, .inl (cy 2, 7, .inl w1_rate)), (g1_near, .inl (cy 2, 7, .inl w1_near))] ++ (gW rh0_least 41 7 (cy 2) (upM v_least p3.toNatClampNeg (upd (v_least p3.toNatClampNeg) s1_144.toNatClampNeg s0_144)) ++ gW rh0_most 41 7 (cy 2) (upM v_most p3.toNatClampNeg (upd (v_most p3.toNatClampNeg) p4.toNatClampNeg (-1 : Int32))))) H := hP
        have hD : va_D A ([(h0, .inr (5, [.ref h0_least, .ref h0_most])), (h0_least, .inl (cy 5, 41, gO 41 rh0_least)), (h0_most, .inl (cy 5, 41, gO 41 rh0_most)), (g1, .inr (0, [.int w1_parts, og1_1, og1_2, og1_3, og1_4, og1_5, og1_6, .ref g1_rate, .ref g1_near, og1_9, og1_10, og1_11, og1_12])), (g1_rate, .inl (cy 2, 7, .inl w1_rate)), (g1_near, .inl (cy 2, 7, .inl w1_near))] ++ (gW rh0_least 41 7 (cy 2) (upM v_least p3.toNatClampNeg (upd (v_least p3.toNatClampNeg) s1_144.toNatClampNeg s0_144)) ++ gW rh0_most 41 7 (cy 2) (upM v_most p3.toNatClampNeg (upd (v_most p3.toNatClampNeg) p4.toNatClampNeg (-1 : Int32))))) := hD
        obtain ⟨rfl, rfl⟩ := si2 hM
        exact hret _ _ _ _ dX5_layCell_173 hP hD hS
    refine lv_icmp_ne (tgt := 135) hx hb dX5_layCell_128 (by decide) (fun c128 => ?_) (fun c128 => ?_)
    · have hM := g_neg c128 hM
      refine lv_iload hx hb dX5_layCell_135 (lv_at hl 4 rfl) ?_
      refine lv_aload_n hx hb dX5_layCell_137 rfl (lv_at hl 1 rfl) ?_
      refine lv_iload hx hb dX5_layCell_138 (lv_at hl 3 rfl) ?_
      obtain ⟨r140, hc140, hM⟩ := ob1_some hM
      refine cg_vi (As := [.int p4]) (rest := [.int e5_25, .int p4, .ref (rh0_least p3.toNatClampNeg)]) (ci := 0) (q0 := 3) (wr := ([(h0, .inr (5, [.ref h0_least, .ref h0_most])), (h0_least, .inl (cy 5, 41, gO 41 rh0_least)), (h0_most, .inl (cy 5, 41, gO 41 rh0_most)), (g1_near, .inl (cy 2, 7, .inl w1_near))] ++ (gW rh0_least 41 7 (cy 2) v_least ++ gW rh0_most 41 7 (cy 2) v_most))) (ws2 := ([(h0, .inr (5, [.ref h0_least, .ref h0_most])), (h0_least, .inl (cy 5, 41, gO 41 rh0_least)), (h0_most, .inl (cy 5, 41, gO 41 rh0_most)), (g1, .inr (0, [.int w1_parts, og1_1, og1_2, og1_3, og1_4, og1_5, og1_6, .ref g1_rate, .ref g1_near, og1_9, og1_10, og1_11, og1_12])), (g1_rate, .inl (cy 2, 7, .inl w1_rate)), (g1_near, .inl (cy 2, 7, .inl w1_near))] ++ (gW rh0_least 41 7 (cy 2) v_least ++ gW rh0_most 41 7 (cy 2) v_most))) hx hb hml hown hts (c0_rateOf l D cy N g1 g1_rate og1_1 og1_2 og1_3 og1_4 og1_5 og1_6 (.ref g1_near) og1_9 og1_10 og1_11 og1_12 p4 w1_parts w1_rate r140 hc140) (cwV 1 hts gX5_layCell_X0_rateOf rfl rfl rfl (by decide +kernel) ⟨Nat.le_of_ble_eq_true rfl, Nat.le_of_ble_eq_true rfl⟩) hK hP hD hS hA rfl rfl (pm_Q (pm_x [0, 1, 2, 5, 3, 4] rfl rfl)) (pm_Q (pm_x [0, 1, 2, 5, 3, 4] rfl rfl)).symm rfl rfl hl.1 (Nat.le_of_ble_eq_true rfl) dX5_layCell_140 ⟨Nat.zero_le _, Nat.zero_le _⟩ (fun H locs hP hD hS => ?_)
      refine lv_iadd hx hb dX5_layCell_143 ?_
      exact K144 (e5_25 + r140) p4 _ _ _ hM hP hD hS (lv_sub hl [0, 1, 2, 3, 5] rfl)
    · have hM := g_pos c128 hM
      refine lv_iconst (v := -1) hx hb dX5_layCell_131 (by decide) ?_
      refine lv_goto (tgt := 144) hx hb dX5_layCell_132 (by decide) ?_
      exact K144 (-1 : Int32) p4 _ _ _ hM hP hD hS (lv_sub hl [0, 1, 2, 3, 5] rfl)
  refine lv_icmp_ne (tgt := 15) hx hb dX5_layCell_2 (by decide) (fun c2 => ?_) (fun c2 => ?_)
  · have hM := g_neg c2 hM
    refine lv_iconst (v := -1) hx hb dX5_layCell_15 (by decide) ?_
    exact K16 (-1 : Int32) _ _ _ hM hP hD hS (lv_sub hl [0, 1, 3, 4] rfl)
  · have hM := g_pos c2 hM
    refine lv_iload hx hb dX5_layCell_5 (lv_at hl 4 rfl) ?_
    refine lv_iload_n hx hb dX5_layCell_7 rfl (lv_at hl 2 rfl) ?_
    refine lv_icmp_ne (tgt := 15) hx hb dX5_layCell_8 (by decide) (fun c8 => ?_) (fun c8 => ?_)
    · have hM := g_neg c8 hM
      refine lv_iconst (v := -1) hx hb dX5_layCell_15 (by decide) ?_
      exact K16 (-1 : Int32) _ _ _ hM hP hD hS (lv_sub hl [0, 1, 3, 4] rfl)
    · have hM := g_pos c8 hM
      refine lv_iconst (v := 0) hx hb dX5_layCell_11 (by decide) ?_
      refine lv_goto (tgt := 16) hx hb dX5_layCell_12 (by decide) ?_
      exact K16 (0 : Int32) _ _ _ hM hP hD hS (lv_sub hl [0, 1, 3, 4] rfl)
